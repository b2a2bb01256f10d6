import java.lang.reflect.Method;
import java.util.Map;
import java.util.TreeMap;

/**
 * A new object and the calls on it, no more of them than the document allows. A call is written as it
 * stands in Java, so that a wrong answer is told with it: is("letter(1, 2, 3)", 0).
 */
final class Run {
    private static final int MOST_CALLS = 512;
    private static final int[] REASONS = {-1, -2, -3, -5, -6};
    private static final Map<String, Method> METHODS = methods();

    private final Checks checks;
    private final DeadLetters object = new DeadLetters();
    private int calls = 0;
    // what looks() saw, as long as nothing was called since but what only looks
    private String looked = null;

    Run(Checks checks) {
        this.checks = checks;
    }

    private static Map<String, Method> methods() {
        Map<String, Method> all = new TreeMap<>();
        for (Method method : DeadLetters.class.getDeclaredMethods()) {
            if (java.lang.reflect.Modifier.isPublic(method.getModifiers())) {
                all.put(method.getName(), method);
            }
        }
        return all;
    }

    private long call(String name, Object... numbers) {
        calls++;
        if (calls == MOST_CALLS + 1) {
            checks.so("a run of " + MOST_CALLS + " calls at most", false);
        }
        try {
            return ((Number) METHODS.get(name).invoke(object, numbers)).longValue();
        } catch (ReflectiveOperationException e) {
            throw new IllegalStateException(name, e);
        }
    }

    private long said(String text) {
        looked = null;
        int open = text.indexOf('(');
        String inside = text.substring(open + 1, text.lastIndexOf(')')).trim();
        String[] parts = inside.isEmpty() ? new String[0] : inside.split(",");
        Object[] numbers = new Object[parts.length];
        for (int i = 0; i < parts.length; i++) {
            numbers[i] = number(parts[i].trim());
        }
        return call(text.substring(0, open).trim(), numbers);
    }

    private static int number(String text) {
        switch (text) {
            case "MIN": return Integer.MIN_VALUE;
            case "MAX": return Integer.MAX_VALUE;
            case "NONE": return DeadLetters.NONE;
            default: return Integer.parseInt(text);
        }
    }

    Run is(String call, long want) {
        checks.due(call, said(call), want);
        return this;
    }

    /** Calls with the answers that are due: "letter(1, 2, 3) = 0; child(8) = 0". */
    Run all(String script) {
        for (String line : script.split("[;\n]")) {
            int equal = line.lastIndexOf('=');
            if (equal >= 0) {
                is(line.substring(0, equal).trim(), Long.parseLong(line.substring(equal + 1).trim()));
            }
        }
        return this;
    }

    /** Calls whose answers are of no interest here. */
    Run go(String script) {
        for (String line : script.split("[;\n]")) {
            if (!line.isBlank()) {
                said(line.trim());
            }
        }
        return this;
    }

    /** The same call n times, whatever it answers. */
    Run often(int n, String call) {
        for (int i = 0; i < n; i++) {
            said(call);
        }
        return this;
    }

    /** The TAPE has these bytes alone behind this. */
    Run put(byte[] bytes) {
        looked = null;
        checks.so(bytes.length + " bytes have room on the tape", bytes.length <= 400);
        call("end", 0);
        for (int i = 0; i < bytes.length; i += 20) {
            int[] five = Checks.fiveNumbers(bytes, i);
            call("feed", five[0], five[1], five[2], five[3], five[4]);
        }
        call("end", bytes.length);
        return this;
    }

    Run put(String text) {
        return put(Checks.bytesOf(text));
    }

    Run law(String text, int want) {
        put(text);
        checks.due("law \"" + text + "\"", call("law"), want);
        return this;
    }

    Run orders(String text, int want) {
        put(text);
        checks.due("orders \"" + text + "\"", call("orders"), want);
        return this;
    }

    Run row(int want, int... values) {
        put(Checks.bytesOf(values));
        checks.due("row of " + values.length + " bytes", call("row"), want);
        return this;
    }

    /** The next LAW is this one, and it is in FORCE. */
    Run under(String text) {
        put(text);
        long law = call("law");
        checks.so("law \"" + text + "\"", law >= 0);
        call("force", (int) law);
        return this;
    }

    /** All that can be seen of what an IMAGE keeps, and of the latest SCHOOLS and BLOTS. */
    private String looks() {
        if (looked != null) {
            return looked;
        }
        StringBuilder all = new StringBuilder();
        int[] counts = {0, 1, 2, 3, 4, 5, 12, 13, 14, 15};
        for (int what : counts) {
            all.append(call("count", what)).append(' ');
        }
        long letters = call("count", 0);
        for (int letter = 0; letter < letters; letter++) {
            for (int what = 0; what < 4; what++) {
                all.append(call("at", letter, what)).append(' ');
            }
        }
        long children = call("count", 2);
        for (int child = 0; child < children; child++) {
            for (int what = 0; what < 3; what++) {
                all.append(call("of", child, what)).append(' ');
            }
        }
        // the latest SCHOOLS have CHILDREN of their own, as many or not
        boolean there = true;
        for (int child = 0; there && child < 6; child++) {
            long knows = call("drawn", child, 0);
            there = knows != DeadLetters.NONE;
            all.append(knows).append(' ').append(call("drawn", child, 1)).append(' ');
        }
        all.append(call("heard", 0, -1)).append(' ').append(call("compare", -1)).append(' ').append(call("blots"));
        looked = all.toString();
        return looked;
    }

    private String texts() {
        return call("count", 6) + " " + call("fault") + " " + call("stopped");
    }

    private long[] refusals() {
        long[] counts = new long[REASONS.length];
        for (int i = 0; i < counts.length; i++) {
            counts[i] = call("count", 7 + i);
        }
        return counts;
    }

    private void stands(String call, long[] ahead, int reason, long status) {
        checks.due("status() behind " + call, call("status"), status);
        for (int i = 0; i < REASONS.length; i++) {
            long more = REASONS[i] == reason ? 1 : 0;
            checks.due("count(" + (7 + i) + ") behind " + call, call("count", 7 + i), ahead[i] + more);
        }
    }

    /** A call that is REFUSED: what it answers, what is counted, what status tells, and nothing else is changed. */
    Run refused(String call, int reason) {
        long[] ahead = refusals();
        String textsAhead = texts();
        String looksAhead = looks();
        is(call, reason);
        stands(call, ahead, reason, reason);
        checks.same("what stands behind " + call, looks(), looksAhead);
        checks.same("tape, fault, stopped behind " + call, texts(), textsAhead);
        return this;
    }

    /** The same of law(), orders() with this TEXT: the TAPE is empty then. */
    Run refusedText(String call, String text, int reason) {
        put(text);
        long[] ahead = refusals();
        String looksAhead = looks();
        is(call, reason);
        stands(call + " of \"" + text + "\"", ahead, reason, reason);
        checks.same("what stands behind " + call + " of \"" + text + "\"", looks(), looksAhead);
        checks.due("bytes of the tape behind " + call, call("count", 6), 0);
        return this;
    }

    /** A call that is not REFUSED, one of those of which status tells. */
    Run accepted(String call, long want) {
        long[] ahead = refusals();
        is(call, want);
        stands(call, ahead, 0, 0);
        return this;
    }

    /** A call of another kind: whatever it answers, it counts as no refusal and leaves status. */
    Run quiet(String call, long want) {
        long[] ahead = refusals();
        long status = call("status");
        is(call, want);
        stands(call, ahead, 0, status);
        return this;
    }
}
