import java.util.Random;

/** Drawn runs of calls: the class and the model must answer alike. The seeds are fixed. */
public final class ModelTest {
    private static final int RUNS = 700;
    private final Random draws;
    private final DeadLetters real = new DeadLetters();
    private final Model model = new Model();
    private final StringBuilder told = new StringBuilder();
    private final int style;
    private int calls = 0;
    private boolean same = true;

    private ModelTest(int seed) {
        draws = new Random(seed);
        style = seed % 4;
    }

    public static void main(String[] args) {
        Checks checks = new Checks();
        int runs = args.length > 0 ? Integer.parseInt(args[0]) : RUNS;
        int from = args.length > 1 ? Integer.parseInt(args[1]) : 0;
        for (int seed = from; seed < from + runs; seed++) {
            checks.about("run " + seed);
            checks.so("alike", new ModelTest(seed).run());
        }
        checks.close();
    }

    private boolean run() {
        fillHouse();
        while (calls < 480 && same) {
            switch (n(9)) {
                case 0: text("law"); if (n(2) == 0) call("force", n(7) - 1); break;
                case 1: text("orders"); call("stopped"); break;
                case 2: case 3: case 4: deed(); break;
                case 5: case 6: look(); break;
                case 7: rare(); break;
                default: whole(); break;
            }
            call("status");
        }
        return same;
    }

    private int n(int bound) {
        return draws.nextInt(bound);
    }

    private void call(String name, int... a) {
        if (!same || calls >= 512) return;
        calls++;
        long got = onReal(name, a);
        long want = model.call(name, a);
        told.append(name).append(java.util.Arrays.toString(a)).append(" = ").append(got).append('\n');
        if (got != want) {
            same = false;
            String all = told.toString();
            System.out.println(all.substring(Math.max(0, all.length() - 3000)));
            System.out.println("^ due is " + want);
        }
    }

    private void fillHouse() {
        int letters = n(3) == 0 ? n(9) : 3 + n(6), children = n(3) == 0 ? n(7) : 2 + n(5);
        for (int i = 0; i < letters; i++) call("letter", set(), set(), n(4) == 0 ? 0 : 1 + n(3));
        for (int i = 0; i < children; i++) call("child", 1 + n(8));
    }

    private int set() {
        switch (n(4)) {
            case 0: return n(256);
            case 1: return n(256) & n(256);
            case 2: return 1 << n(8);
            default: return n(256) & n(256) & n(256);
        }
    }

    private int wild(int bound) {
        switch (n(40)) {
            case 0: return -1 - n(3);
            case 1: return bound + n(3);
            case 2: return Integer.MAX_VALUE - n(2);
            case 3: return Integer.MIN_VALUE + n(2);
            default: return n(bound);
        }
    }

    private int aLetter() {
        return wild((int) Math.max(1, model.call("count", 0)));
    }

    private int aChild() {
        return wild((int) Math.max(1, model.call("count", 2)));
    }

    /** Mostly one that the CHILD KNOWS. */
    private int aTrait(int child) {
        int knows = (int) model.call("of", child, 0);
        int trait = n(8);
        for (int i = 0; i < 8 && (knows >> trait & 1) == 0; i++) trait = n(8);
        return n(10) == 0 ? wild(8) : trait;
    }

    private void deed() {
        int child = aChild();
        switch (n(12)) {
            case 0: case 1: case 2: case 3: case 4: case 5: call("read", aLetter(), child); break;
            case 6: call("answer", aLetter(), child); break;
            case 7: case 8: call("lose", aTrait(child), child); break;
            case 9: call("pass"); break;
            case 10: call("undo"); break;
            default: if (n(4) == 0) for (int i = n(18); i >= 0; i--) call("undo"); break;
        }
    }

    private void look() {
        switch (n(19)) {
            case 0: call("at", aLetter(), wild(4)); break;
            case 1: call("of", aChild(), wild(11)); break;
            case 2: call("asks", aChild(), aLetter(), wild(11)); break;
            case 3: call("lesson", aChild(), aLetter(), n(3) == 0 ? n(5) - 1 : -1); break;
            case 4: call("heard", aChild(), n(3) == 0 ? -1 : wild(20)); break;
            case 5: call("ask", aChild(), wild(2)); break;
            case 6: if (n(6) == 0) for (int c = 0; c < 7; c++) call("matched", c); break;
            case 7: call("together", aLetter(), wild(2)); break;
            case 8: call("clashes", wild(5)); break;
            case 9: call("later", aChild(), n(2) == 0 ? n(6) : wild(61)); break;
            case 10: call("likest", aLetter(), wild(2)); break;
            case 11: call("lost"); break;
            case 12: call("few", wild(21), wild(100)); break;
            case 13: call("compare", wild(6)); break;
            case 14: call("drawn", aChild(), wild(2)); break;
            case 15: call("count", wild(16)); break;
            case 16: call("blots"); break;
            case 17: call("compare", -1); break;
            default: call("told", wild(8), wild(2)); break;
        }
    }

    private void rare() {
        switch (n(style == 3 ? 8 : 14)) {
            case 0: call("letter", wild(256), wild(256), wild(10)); break;
            case 1: call("child", wild(9)); break;
            case 2: call("terms", wild(3), n(3) == 0 ? 990 + n(11) : wild(11)); break;
            case 3: row(); break;
            case 4: call("image", wild(2)); break;
            case 5: call("back", wild(2)); break;
            case 6: call("forget"); break;
            case 7: call("schools", wild(1000001), wild(61)); break;
            case 8: call("end", wild(401)); break;
            case 9: call("force", wild(6)); break;
            default: call("schools", n(1000001), 1 + n(60)); break;
        }
    }

    /** All that can be seen of the state. */
    private void whole() {
        if (n(4) != 0) return;
        for (int what = 0; what <= 16; what++) call("count", what);
        for (int c = 0; c < 6; c++) {
            call("of", c, 0);
            call("of", c, 2);
        }
        for (int l = 0; l < 8; l++) call("at", l, 3);
    }

    private void row() {
        byte[] bytes = new byte[n(3) == 0 ? 0 : n(12)];
        for (int i = 0; i < bytes.length; i++) bytes[i] = (byte) (i % 3 == 2 ? n(12) : n(256));
        feed(bytes);
        call("row");
        call("blots");
    }

    private void text(String kind) {
        String text = kind.equals("law") ? law() : orders();
        if (n(4) == 0) text = spoilt(text);
        if (text.length() > 400) text = text.substring(0, 400);
        feed(Checks.bytesOf(text));
        call(kind);
        call("fault");
    }

    private void feed(byte[] bytes) {
        if (n(30) != 0) call("end", 0);
        for (int i = 0; i < bytes.length; i += 20) call("feed", Checks.fiveNumbers(bytes, i));
        call("end", bytes.length);
    }

    private String spoilt(String text) {
        StringBuilder b = new StringBuilder(text);
        String other = " ;[]()<>=+-*/%09azAif not or\t\u00ff~";
        for (int i = n(3); i >= 0; i--) {
            int place = n(b.length() + 1);
            switch (n(3)) {
                case 0: if (place < b.length()) b.deleteCharAt(place); break;
                case 1: b.insert(place, other.charAt(n(other.length()))); break;
                default: if (place < b.length()) b.setCharAt(place, other.charAt(n(other.length()))); break;
            }
        }
        return b.toString();
    }

    private String law() {
        StringBuilder b = new StringBuilder();
        for (int i = 1 + n(n(8) == 0 ? 13 : 4); i > 0; i--) {
            if (b.length() > 0) b.append(";");
            switch (n(5)) {
                case 0: b.append("shuns"); break;
                case 1: b.append("fades"); break;
                case 2: b.append("bars"); break;
                default: b.append("worth ").append(sum(false, 2)); break;
            }
            if (n(20) == 0) continue;
            // else too much is shunned, faded and barred for anything to come about
            b.append(" if ").append(n(3) == 0 ? "trait+letter = 3 and " : "");
            b.append(test(false, n(10) == 0 ? 4 : 2));
        }
        return b.toString();
    }

    private String orders() {
        StringBuilder b = new StringBuilder();
        for (int i = 1 + n(n(8) == 0 ? 13 : 4); i > 0; i--) {
            if (b.length() > 0) b.append(" ; ");
            switch (n(5)) {
                case 0: b.append("read ").append(small(count(0))).append(" to ").append(small(count(2))); break;
                case 1: b.append("answer ").append(small(count(0))).append(" by ").append(small(count(2))); break;
                case 2: b.append("lose ").append(small(8)).append(" of ").append(small(count(2))); break;
                case 3: b.append("pass"); break;
                default: b.append("read ").append(sum(true, 1)).append(" to ").append(small(count(2))); break;
            }
            if (n(4) == 0) b.append(" times ").append(n(12) == 0 ? wild(22) : 1 + n(4));
            if (n(3) == 0) b.append(" if ").append(test(true, 2));
        }
        return b.toString();
    }

    private int count(int what) {
        return (int) Math.max(1, model.call("count", what));
    }

    private String small(int bound) {
        if (n(6) == 0) return "[" + sum(true, 1) + "]%" + bound;
        return "" + n(n(20) == 0 ? bound + 1 : bound);
    }

    private String test(boolean orders, int depth) {
        switch (depth <= 0 ? 3 : n(6)) {
            case 0: return test(orders, depth - 1) + " or " + test(orders, depth - 1);
            case 1: return test(orders, depth - 1) + " and " + test(orders, depth - 1);
            case 2: return "not " + test(orders, depth - 1);
            case 4: return "(" + test(orders, depth - 1) + ")";
            default: return sum(orders, 1) + "<>=".charAt(n(3)) + sum(orders, 1);
        }
    }

    private String sum(boolean orders, int depth) {
        if (depth > 0 && n(2) == 0) {
            String sign = " " + "+-*/%".charAt(n(5)) + " ";
            return sum(orders, depth - 1) + sign + sum(orders, depth - 1);
        }
        if (depth > 0 && n(4) == 0) return "[" + sum(orders, depth - 1) + "]";
        if (n(3) == 0) return n(8) == 0 ? "1000*1000*1000" : "" + n(n(6) == 0 ? 1003 : 6);
        String[] words = orders ? new String[] {"day", "done", "latest", "open", "knows ", "grown "}
            : new String[] {"child", "letter", "trait", "knows", "bears", "grown", "house", "served", "day", "mood"};
        String word = words[n(words.length)];
        return word.endsWith(" ") ? word + n(n(9) == 0 ? 8 : 6) : word;
    }

    private long onReal(String name, int[] a) {
        switch (name) {
            case "letter": return real.letter(a[0], a[1], a[2]);
            case "at": return real.at(a[0], a[1]);
            case "child": return real.child(a[0]);
            case "of": return real.of(a[0], a[1]);
            case "asks": return real.asks(a[0], a[1], a[2]);
            case "terms": return real.terms(a[0], a[1]);
            case "feed": return real.feed(a[0], a[1], a[2], a[3], a[4]);
            case "end": return real.end(a[0]);
            case "row": return real.row();
            case "blots": return real.blots();
            case "law": return real.law();
            case "orders": return real.orders();
            case "fault": return real.fault();
            case "stopped": return real.stopped();
            case "force": return real.force(a[0]);
            case "read": return real.read(a[0], a[1]);
            case "answer": return real.answer(a[0], a[1]);
            case "lose": return real.lose(a[0], a[1]);
            case "pass": return real.pass();
            case "undo": return real.undo();
            case "lesson": return real.lesson(a[0], a[1], a[2]);
            case "told": return real.told(a[0], a[1]);
            case "forget": return real.forget();
            case "heard": return real.heard(a[0], a[1]);
            case "ask": return real.ask(a[0], a[1]);
            case "matched": return real.matched(a[0]);
            case "together": return real.together(a[0], a[1]);
            case "clashes": return real.clashes(a[0]);
            case "later": return real.later(a[0], a[1]);
            case "likest": return real.likest(a[0], a[1]);
            case "lost": return real.lost();
            case "few": return real.few(a[0], a[1]);
            case "compare": return real.compare(a[0]);
            case "schools": return real.schools(a[0], a[1]);
            case "drawn": return real.drawn(a[0], a[1]);
            case "image": return real.image(a[0]);
            case "back": return real.back(a[0]);
            case "count": return real.count(a[0]);
            case "status": return real.status();
            default: throw new IllegalStateException(name);
        }
    }
}
