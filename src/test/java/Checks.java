import java.util.Set;
import java.util.TreeSet;

/** What the tests share: counting wrong answers, feeding texts. */
final class Checks {
    private int wrong = 0;
    private int asked = 0;
    private String about = "";
    private final Set<Integer> promises = new TreeSet<>();

    void about(String what) {
        about = what;
    }

    void due(String call, long got, long want) {
        asked++;
        if (got != want) {
            wrong++;
            System.out.println(about + ": " + call + " answered " + got + ", due is " + want);
        }
    }

    void so(String what, boolean is) {
        due(what, is ? 1 : 0, 1);
    }

    void same(String what, String got, String want) {
        asked++;
        if (!got.equals(want)) {
            wrong++;
            System.out.println(about + ": " + what + " is [" + got + "], due is [" + want + "]");
        }
    }

    /** A new object for what a promise says here, which is told with every wrong answer. */
    Run run(int promise, String sentence) {
        promises.add(promise);
        about("promise " + promise + ": " + sentence);
        return new Run(this);
    }

    /** Whether each promise from the first to the last one had a run. */
    void carried(int first, int last) {
        about("promises " + first + " to " + last);
        for (int promise = first; promise <= last; promise++) {
            so("a test of promise " + promise, promises.contains(promise));
        }
    }

    /** Tells what came out and ends with exit code 1 if an answer was wrong. */
    void close() {
        System.out.println(asked + " answers, " + wrong + " of them wrong");
        if (wrong != 0) {
            System.exit(1);
        }
    }

    static int[] fiveNumbers(byte[] bytes, int from) {
        int[] five = new int[5];
        for (int i = 0; i < 20; i++) {
            int value = from + i < bytes.length ? bytes[from + i] & 255 : 32;
            five[i / 4] = five[i / 4] << 8 | value;
        }
        return five;
    }

    /** The TAPE has these bytes alone behind this. */
    static void put(DeadLetters x, byte[] bytes) {
        x.end(0);
        for (int i = 0; i < bytes.length; i += 20) {
            int[] five = fiveNumbers(bytes, i);
            x.feed(five[0], five[1], five[2], five[3], five[4]);
        }
        x.end(bytes.length);
    }

    static byte[] bytesOf(String text) {
        byte[] bytes = new byte[text.length()];
        for (int i = 0; i < bytes.length; i++) {
            bytes[i] = (byte) text.charAt(i);
        }
        return bytes;
    }

    static int law(DeadLetters x, String text) {
        put(x, bytesOf(text));
        return x.law();
    }

    static int orders(DeadLetters x, String text) {
        put(x, bytesOf(text));
        return x.orders();
    }

    static byte[] bytesOf(int... values) {
        byte[] bytes = new byte[values.length];
        for (int i = 0; i < bytes.length; i++) {
            bytes[i] = (byte) values[i];
        }
        return bytes;
    }

    static int row(DeadLetters x, int... values) {
        put(x, bytesOf(values));
        return x.row();
    }
}
