import java.util.ArrayList;
import java.util.List;

/**
 * The document once more, as plainly as can be and with other ways of reckoning than the class has:
 * trees for TEXTS, exceptions for FAULTS and what is BROKEN, whole copies for what can be undone.
 */
final class Model {
    static final class Fault extends RuntimeException {
        final int place;

        Fault(int place) {
            super(null, null, false, false);
            this.place = place;
        }
    }

    static final class Broken extends RuntimeException {
        Broken() {
            super(null, null, false, false);
        }
    }

    interface Words {
        int of(String word, int child);
    }

    interface Sum {
        int is(Words words);
    }

    interface Test {
        boolean so(Words words);
    }

    static final class Clause {
        String kind;
        Sum first;
        Sum second;
        int times = 1;
        Test test;
    }

    static final class Letter implements Cloneable {
        int content, need, house;
        boolean answered;

        Letter copy() {
            Letter l = new Letter();
            l.content = content;
            l.need = need;
            l.house = house;
            l.answered = answered;
            return l;
        }
    }

    static final class Child {
        int knows, bears, grown;

        Child copy() {
            Child c = new Child();
            c.knows = knows;
            c.bears = bears;
            c.grown = grown;
            return c;
        }
    }

    static final class State {
        List<Letter> letters = new ArrayList<>();
        List<Child> children = new ArrayList<>();
        List<int[]> told = new ArrayList<>();
        List<List<Clause>> laws = new ArrayList<>();
        int force = -1;
        int day = 0, found = 2, mood = 0;

        State copy() {
            State s = new State();
            for (Letter l : letters) s.letters.add(l.copy());
            for (Child c : children) s.children.add(c.copy());
            s.told.addAll(told);
            s.laws.addAll(laws);
            s.force = force;
            s.day = day;
            s.found = found;
            s.mood = mood;
            return s;
        }
    }

    static final class Step {
        int kind;
        State ahead;
    }

    private State s = new State();
    private List<Integer> tape = new ArrayList<>();
    private List<Step> steps = new ArrayList<>();
    private State[] images = new State[2];
    private State school;
    private int fault = -1, stopped = -1, blots = 0, status = 0;
    private int[] refused = new int[7];

    long call(String name, int... a) {
        switch (name) {
            case "letter": case "child": case "terms": case "row": case "law": case "orders": case "force":
            case "read": case "answer": case "lose": case "pass": case "undo": case "told": case "schools":
            case "image": case "back": {
                int[] answer = change(name, a);
                status = answer[1];
                if (status < 0) refused[-status]++;
                return answer[0];
            }
            default:
                return look(name, a);
        }
    }

    private static int[] ok(int answer) {
        return new int[] {answer, 0};
    }

    private static int[] no(int reason) {
        return new int[] {reason, reason};
    }

    private int[] change(String name, int[] a) {
        switch (name) {
            case "letter":
                if (!isSet(a[0]) || !isSet(a[1]) || !in(a[2], 0, 9)) return no(-1);
                if (s.letters.size() == 8) return no(-5);
                steps.clear();
                put(a[0], a[1], a[2]);
                return ok(s.letters.size() - 1);
            case "child": {
                if (!in(a[0], 1, 8)) return no(-1);
                if (s.children.size() == 6) return no(-5);
                steps.clear();
                Child c = new Child();
                c.bears = a[0];
                s.children.add(c);
                return ok(s.children.size() - 1);
            }
            case "terms":
                return terms(a[0], a[1]);
            case "row":
                return row();
            case "law":
                return law();
            case "orders":
                return orders();
            case "force": {
                if (!in(a[0], -1, s.laws.size() - 1)) return no(-2);
                int was = s.force;
                s.force = a[0];
                return ok(was);
            }
            case "read": case "answer": case "lose": case "pass": {
                int r = deed(name, a.length > 0 ? a[0] : 0, a.length > 1 ? a[1] : 0);
                return r < 0 ? no(r) : ok(r);
            }
            case "undo": {
                if (steps.isEmpty()) return no(-3);
                Step step = steps.remove(steps.size() - 1);
                s.letters = step.ahead.letters;
                s.children = step.ahead.children;
                s.day = step.ahead.day;
                return ok(step.kind);
            }
            case "told":
                if (!in(a[0], 0, 7) || !in(a[1], 0, 1)) return no(-1);
                if (s.told.size() == 8) return no(-5);
                s.told.add(new int[] {a[0], a[1]});
                return ok(s.told.size());
            case "schools":
                if (!in(a[0], 0, 1000000) || !in(a[1], 1, 60)) return no(-1);
                if (s.letters.isEmpty() || s.children.isEmpty()) return no(-3);
                return ok(schools(a[0], a[1]));
            case "image":
                if (!in(a[0], 0, 1)) return no(-1);
                images[a[0]] = s.copy();
                return ok(0);
            case "back":
                if (!in(a[0], 0, 1)) return no(-1);
                if (images[a[0]] == null) return no(-2);
                s = images[a[0]].copy();
                steps.clear();
                return ok(0);
            default:
                throw new IllegalStateException(name);
        }
    }

    private long look(String name, int[] a) {
        switch (name) {
            case "at": {
                if (!isLetter(a[0])) return -1;
                Letter l = s.letters.get(a[0]);
                return a[1] == 0 ? l.content : a[1] == 1 ? l.need : a[1] == 2 ? l.house : a[1] == 3 ? bit(l.answered) : -1;
            }
            case "of": {
                if (!isChild(a[0])) return -1;
                Child c = s.children.get(a[0]);
                if (in(a[1], 3, 10)) return bit(fades(a[0], c.knows, a[1] - 3, s.day));
                return a[1] == 0 ? c.knows : a[1] == 1 ? c.bears : a[1] == 2 ? c.grown : -1;
            }
            case "asks": {
                if (!isChild(a[0]) || !isLetter(a[1])) return -1;
                if (in(a[2], 3, 10)) return bit(shuns(a[0], a[1], a[2] - 3, s.children.get(a[0]).knows));
                return a[2] == 0 ? served(a[0], a[1]) : a[2] == 1 ? worth(force(), a[0], a[1])
                        : a[2] == 2 ? bit(barred(a[0], a[1])) : -1;
            }
            case "feed":
                if (tape.size() + 20 > 400) return -1;
                for (int i = 0; i < 20; i++) tape.add(a[i / 4] >>> 24 - 8 * (i % 4) & 255);
                return tape.size();
            case "end":
                if (!in(a[0], 0, tape.size())) return -1;
                tape = new ArrayList<>(tape.subList(0, a[0]));
                return a[0];
            case "blots":
                return blots;
            case "fault":
                return fault;
            case "stopped":
                return stopped;
            case "lesson":
                return lesson(a[0], a[1], a[2]);
            case "forget": {
                int was = s.told.size();
                s.told.clear();
                return was;
            }
            case "heard": {
                if (!isChild(a[0])) return -1;
                List<int[]> sets = heard(a[0]);
                return a[1] == -1 ? sets.size() : in(a[1], 0, sets.size() - 1) ? sets.get(a[1])[0] : -1;
            }
            case "ask":
                return ask(a[0], a[1]);
            case "matched":
                return matched(a[0]);
            case "together":
                return together(a[0], a[1]);
            case "clashes":
                return clashes(a[0]);
            case "later": {
                if (!isChild(a[0]) || !in(a[1], 0, 60)) return -1;
                int knows = s.children.get(a[0]).knows;
                for (int i = 0; i < a[1]; i++) knows = overnight(a[0], knows, s.day + i);
                return knows;
            }
            case "likest": {
                if (!isLetter(a[0]) || s.children.isEmpty() || !in(a[1], 0, 1)) return -1;
                for (int d = 0; ; d++)
                    for (int c = 0; c < s.children.size(); c++)
                        if (Integer.bitCount(s.children.get(c).knows ^ s.letters.get(a[0]).content) == d)
                            return a[1] == 0 ? c : d;
            }
            case "lost": {
                int bits = 0;
                for (int l = 0; l < s.letters.size(); l++) {
                    boolean lost = false;
                    for (int t = 0; t < 8; t++) {
                        boolean known = false;
                        for (Child c : s.children) known |= has(c.knows, t);
                        lost |= has(s.letters.get(l).need, t) && !known;
                    }
                    if (lost && !s.letters.get(l).answered) bits += 1 << l;
                }
                return bits;
            }
            case "few":
                return few(a[0], a[1]);
            case "compare": {
                if (!in(a[0], -1, s.laws.size() - 1)) return -1;
                int all = 0;
                for (int c = 0; c < s.children.size(); c++)
                    for (int l = 0; l < s.letters.size(); l++)
                        all += worth(a[0] == -1 ? new ArrayList<>() : s.laws.get(a[0]), c, l);
                return all;
            }
            case "drawn":
                if (school == null || !in(a[0], 0, school.children.size() - 1)) return -1;
                return a[1] == 0 ? school.children.get(a[0]).knows : a[1] == 1 ? school.children.get(a[0]).grown : -1;
            case "count":
                return count(a[0]);
            case "status":
                return status;
            default:
                throw new IllegalStateException(name);
        }
    }

    private int count(int what) {
        int open = 0;
        for (Letter l : s.letters) open += l.answered ? 0 : 1;
        int[] all = {s.letters.size(), open, s.children.size(), s.told.size(), s.laws.size(), steps.size(), tape.size(),
            refused[1], refused[2], refused[3], refused[5], refused[6], s.force, s.day, s.found, s.mood};
        return in(what, 0, 15) ? all[what] : -1;
    }

    private static boolean in(int v, int low, int high) {
        return v >= low && v <= high;
    }

    private static boolean isSet(int v) {
        return in(v, 0, 255);
    }

    private static boolean has(int set, int t) {
        return (set & 1 << t) != 0;
    }

    private static int bit(boolean b) {
        return b ? 1 : 0;
    }

    private boolean isLetter(int l) {
        return in(l, 0, s.letters.size() - 1);
    }

    private boolean isChild(int c) {
        return in(c, 0, s.children.size() - 1);
    }

    private void put(int content, int need, int house) {
        Letter l = new Letter();
        l.content = content;
        l.need = need;
        l.house = house;
        s.letters.add(l);
    }

    private int[] terms(int what, int value) {
        if (!in(what, 0, 2) || !in(value, 0, new int[] {999, 10, 9}[what])) return no(-1);
        steps.clear();
        int was = what == 0 ? s.day : what == 1 ? s.found : s.mood;
        if (what == 0) s.day = value;
        if (what == 1) s.found = value;
        if (what == 2) s.mood = value;
        return ok(was);
    }

    private int[] row() {
        if (tape.isEmpty()) return no(-6);
        steps.clear();
        blots = 0;
        int came = 0;
        while (!tape.isEmpty()) {
            List<Integer> three = new ArrayList<>(tape.subList(0, Math.min(3, tape.size())));
            tape = new ArrayList<>(tape.subList(three.size(), tape.size()));
            if (three.size() == 3 && in(three.get(2), 0, 9) && s.letters.size() < 8) {
                put(three.get(0), three.get(1), three.get(2));
                came++;
            } else {
                blots++;
            }
        }
        return ok(came);
    }

    private int[] law() {
        List<Integer> text = tape;
        tape = new ArrayList<>();
        if (s.laws.size() == 6) return no(-5);
        fault = -1;
        try {
            s.laws.add(new Parser(text, false).all());
            return ok(s.laws.size() - 1);
        } catch (Fault f) {
            fault = f.place;
            return no(-6);
        }
    }

    private int[] orders() {
        List<Integer> text = tape;
        tape = new ArrayList<>();
        fault = -1;
        stopped = -1;
        List<Clause> clauses;
        try {
            clauses = new Parser(text, true).all();
        } catch (Fault f) {
            fault = f.place;
            return no(-6);
        }
        State ahead = s.copy();
        List<Step> stepsAhead = new ArrayList<>(steps);
        int[] doneLatest = {0, -1};
        for (int i = 0; i < clauses.size(); i++) {
            for (int k = 0; k < clauses.get(i).times; k++) {
                if (!order(clauses.get(i), doneLatest)) {
                    s = ahead;
                    steps = stepsAhead;
                    stopped = i;
                    return no(-3);
                }
            }
        }
        return ok(doneLatest[0]);
    }

    private boolean order(Clause clause, int[] doneLatest) {
        Words words = (word, child) -> {
            switch (word) {
                case "day": return s.day;
                case "done": return doneLatest[0];
                case "latest": return doneLatest[1];
                case "open": return count(1);
                case "knows": return isChild(child) ? Integer.bitCount(s.children.get(child).knows) : -1;
                case "grown": return isChild(child) ? s.children.get(child).grown : -1;
                default: throw new IllegalStateException(word);
            }
        };
        try {
            if (clause.test != null && !clause.test.so(words)) return true;
        } catch (Broken b) {
            return true;
        }
        int first, second;
        try {
            first = clause.first == null ? 0 : clause.first.is(words);
            second = clause.second == null ? 0 : clause.second.is(words);
        } catch (Broken b) {
            return false;
        }
        int r = deed(clause.kind, first, second);
        if (r < 0) return false;
        doneLatest[0]++;
        if (clause.kind.equals("answer")) doneLatest[1] = r;
        return true;
    }

    private int deed(String kind, int a, int b) {
        int number = List.of("read", "answer", "lose", "pass").indexOf(kind);
        Step step = new Step();
        step.kind = number;
        step.ahead = s.copy();
        int r = number == 0 ? read(a, b) : number == 1 ? answer(a, b) : number == 2 ? lose(a, b) : pass();
        if (r >= 0) {
            steps.add(step);
            if (steps.size() > 16) steps.remove(0);
        }
        return r;
    }

    private int read(int l, int c) {
        if (!isLetter(l) || !isChild(c)) return -2;
        Child child = s.children.get(c);
        int before = Integer.bitCount(child.knows);
        child.knows = afterReading(c, l, child.knows);
        child.grown = Math.min(99, child.grown + 1);
        return Integer.bitCount(child.knows) - before;
    }

    private int answer(int l, int c) {
        if (!isLetter(l) || !isChild(c)) return -2;
        Letter letter = s.letters.get(l);
        if (letter.house == 0 || letter.answered || barred(c, l)) return -3;
        letter.answered = true;
        return worth(force(), c, l);
    }

    private int lose(int t, int c) {
        if (!in(t, 0, 7)) return -1;
        if (!isChild(c)) return -2;
        if (!has(s.children.get(c).knows, t)) return -3;
        s.children.get(c).knows -= 1 << t;
        return Integer.bitCount(s.children.get(c).knows);
    }

    private int pass() {
        if (s.day == 999) return -3;
        int[] stays = new int[s.children.size()];
        for (int c = 0; c < stays.length; c++) stays[c] = overnight(c, s.children.get(c).knows, s.day);
        for (int c = 0; c < stays.length; c++) s.children.get(c).knows = stays[c];
        s.day++;
        return s.day;
    }

    private int afterReading(int c, int l, int knows) {
        for (int t = 0; t < 8; t++) {
            if (Integer.bitCount(knows) == s.children.get(c).bears) return knows;
            if (has(s.letters.get(l).content, t) && !has(knows, t) && !shuns(c, l, t, knows)) knows += 1 << t;
        }
        return knows;
    }

    private int overnight(int c, int knows, int day) {
        int stays = 0;
        for (int t = 0; t < 8; t++) if (has(knows, t) && !fades(c, knows, t, day)) stays += 1 << t;
        return stays;
    }

    private List<Clause> force() {
        return s.force == -1 ? new ArrayList<>() : s.laws.get(s.force);
    }

    private Words lawWords(int c, int l, int t, int knows, int day) {
        return (word, none) -> {
            switch (word) {
                case "child": return c;
                case "letter": return l;
                case "trait": return t;
                case "knows": return Integer.bitCount(knows);
                case "bears": return s.children.get(c).bears;
                case "grown": return s.children.get(c).grown;
                case "house": return l == -1 ? -1 : s.letters.get(l).house;
                case "served": return l == -1 ? -1 : Integer.bitCount(s.letters.get(l).need & knows);
                case "day": return day;
                case "mood": return s.mood;
                default: throw new IllegalStateException(word);
            }
        };
    }

    private static boolean holds(Clause clause, String kind, Words words) {
        if (!clause.kind.equals(kind)) return false;
        try {
            if (clause.first != null) clause.first.is(words);
            return clause.test == null || clause.test.so(words);
        } catch (Broken b) {
            return false;
        }
    }

    private boolean any(String kind, Words words) {
        for (Clause clause : force()) if (holds(clause, kind, words)) return true;
        return false;
    }

    private boolean shuns(int c, int l, int t, int knows) {
        return any("shuns", lawWords(c, l, t, knows, s.day));
    }

    private boolean fades(int c, int knows, int t, int day) {
        return any("fades", lawWords(c, -1, t, knows, day));
    }

    private boolean barred(int c, int l) {
        return any("bars", lawWords(c, l, -1, s.children.get(c).knows, s.day));
    }

    private int served(int c, int l) {
        return Integer.bitCount(s.letters.get(l).need & s.children.get(c).knows);
    }

    private int worth(List<Clause> law, int c, int l) {
        Words words = lawWords(c, l, -1, s.children.get(c).knows, s.day);
        int worth = served(c, l);
        for (Clause clause : law)
            if (holds(clause, "worth", words)) worth = Math.min(99, Math.max(0, clause.first.is(words)));
        return worth;
    }

    /** How far each set of TRAITS is from the NEED, then always the lowest LETTER that comes nearer. */
    private int lesson(int c, int l, int i) {
        if (!isChild(c) || !isLetter(l)) return -1;
        int need = s.letters.get(l).need;
        int letters = s.letters.size();
        int[][] then = new int[256][letters];
        int[] far = new int[256];
        for (int k = 0; k < 256; k++) {
            far[k] = (need & ~k) == 0 ? 0 : 1000;
            for (int m = 0; m < letters; m++) then[k][m] = afterReading2(c, m, k);
        }
        for (int round = 0; round < 10; round++)
            for (int k = 255; k >= 0; k--)
                for (int m = 0; m < letters; m++) far[k] = Math.min(far[k], far[then[k][m]] + 1);
        int k = s.children.get(c).knows;
        int size = far[k];
        if (size >= 1000) return -1;
        if (i == -1) return size;
        if (!in(i, 0, size - 1)) return -1;
        int last = -1;
        for (int step = 0; step <= i; step++) {
            for (last = 0; far[then[k][last]] + 1 != far[k]; last++) { }
            k = then[k][last];
        }
        return last;
    }

    // sets of more TRAITS than the CHILD BEARS are never reached from what it KNOWS: they may stay as they are
    private int afterReading2(int c, int l, int knows) {
        return Integer.bitCount(knows) > s.children.get(c).bears ? knows : afterReading(c, l, knows);
    }

    private List<int[]> heard(int c) {
        List<int[]> sets = new ArrayList<>();
        for (int set = 0; set < 1 << s.letters.size(); set++) {
            int knows = 0;
            for (int l = 0; l < s.letters.size(); l++) if (has(set, l)) knows = afterReading(c, l, knows);
            boolean so = true;
            for (int[] told : s.told) so &= bit(has(knows, told[0])) == told[1];
            if (so) sets.add(new int[] {set, knows});
        }
        return sets;
    }

    private int ask(int c, int what) {
        if (!isChild(c) || !in(what, 0, 1)) return -1;
        List<int[]> sets = heard(c);
        if (sets.isEmpty()) return -1;
        for (int most = 0; ; most++) {
            for (int t = 0; t < 8; t++) {
                int with = 0, without = 0;
                for (int[] set : sets) if (has(set[1], t)) with++; else without++;
                if (Math.max(with, without) == most) return what == 0 ? t : most;
            }
        }
    }

    private int matched(int what) {
        int n = s.children.size();
        if (!in(what, 0, n)) return -1;
        int[][] gain = new int[n][s.letters.size()];
        for (int c = 0; c < n; c++)
            for (int l = 0; l < s.letters.size(); l++) {
                Letter letter = s.letters.get(l);
                gain[c][l] = letter.answered || letter.house == 0 || barred(c, l) ? -1 : worth(force(), c, l);
            }
        int[] best = new int[n + 1];
        best[0] = -1;
        tryAll(gain, new int[n], 0, 0, 0, best);
        return best[what];
    }

    /** Every row, the first ahead: best[0] the WORTH, best[1 + c] the LETTERS. */
    private void tryAll(int[][] gain, int[] row, int c, int used, int worth, int[] best) {
        if (c == row.length) {
            if (worth > best[0]) {
                best[0] = worth;
                System.arraycopy(row, 0, best, 1, c);
            }
            return;
        }
        for (int l = 0; l < gain[c].length; l++) {
            if (gain[c][l] >= 0 && !has(used, l)) {
                row[c] = l;
                tryAll(gain, row, c + 1, used | 1 << l, worth + gain[c][l], best);
            }
        }
        row[c] = 100;
        tryAll(gain, row, c + 1, used, worth, best);
    }

    private int together(int l, int what) {
        if (!isLetter(l) || !in(what, 0, 1)) return -1;
        for (int many = 0; many <= s.children.size(); many++) {
            for (int who = 0; who < 1 << s.children.size(); who++) {
                int known = 0;
                for (int c = 0; c < s.children.size(); c++) if (has(who, c)) known |= s.children.get(c).knows;
                if (Integer.bitCount(who) == many && (s.letters.get(l).need & ~known) == 0) return what == 0 ? many : who;
            }
        }
        return -1;
    }

    private int clashes(int h) {
        if (!in(h, 1, 9)) return -1;
        int twos = 0;
        for (int i = 0; i < s.letters.size(); i++) {
            for (int j = 0; j < i; j++) {
                Letter a = s.letters.get(i), b = s.letters.get(j);
                boolean clash = false;
                for (int t = 0; t < 8; t++) {
                    clash |= has(a.need, t) && has(b.content, t) && !has(a.content, t);
                    clash |= has(b.need, t) && has(a.content, t) && !has(b.content, t);
                }
                if (a.house == h && b.house == h && clash) twos++;
            }
        }
        return twos;
    }

    private long few(int k, int n) {
        if (!in(k, 1, 20) || !in(n, 0, 99)) return -1;
        long[] part = new long[120];
        part[0] = 1000000000000L;
        for (int i = 0; i < n; i++) {
            long[] next = new long[120];
            for (int j = 0; j <= i; j++) {
                next[j] += part[j] * (10 - s.found) / 10;
                next[j + 1] += part[j] * s.found / 10;
            }
            part = next;
        }
        long all = 0;
        for (int j = 0; j < k; j++) all += part[j];
        return all;
    }

    private int schools(int seed, int n) {
        State real = s;
        s = s.copy();
        long draw = seed;
        int answered = 0;
        for (int i = 0; i < n && s.day != 999; i++) {
            draw = (draw * 1103 + 12345) % 1000003;
            int l = (int) (draw % s.letters.size());
            draw = (draw * 1103 + 12345) % 1000003;
            int c = (int) (draw % s.children.size());
            draw = (draw * 1103 + 12345) % 1000003;
            if (draw % 3 == 0) read(l, c);
            if (draw % 3 == 1 && answer(l, c) >= 0) answered++;
            pass();
        }
        school = s;
        s = real;
        return answered;
    }

    static final class Parser {
        private final List<String> tokens = new ArrayList<>();
        private final List<Integer> places = new ArrayList<>();
        private final boolean orders;
        private final int length;
        private int at = 0;
        private int parts = 0;
        private int open = 0;

        Parser(List<Integer> bytes, boolean orders) {
            this.orders = orders;
            length = bytes.size();
            StringBuilder all = new StringBuilder();
            for (int b : bytes) all.append((char) b);
            java.util.regex.Matcher m = java.util.regex.Pattern.compile("[a-z]+|[0-9]+|[^ ]", java.util.regex.Pattern.DOTALL)
                    .matcher(all);
            while (m.find()) {
                tokens.add(m.group());
                places.add(m.start());
            }
        }

        private String now() {
            return at < tokens.size() ? tokens.get(at) : "";
        }

        private Fault fault() {
            return new Fault(at < tokens.size() ? places.get(at) : length);
        }

        private boolean eat(String token) {
            if (!now().equals(token)) return false;
            at++;
            return true;
        }

        private void must(String token) {
            if (!eat(token)) throw fault();
        }

        private int number(int low, int high) {
            if (!now().matches("[0-9]+")) throw fault();
            java.math.BigInteger value = new java.math.BigInteger(now());
            if (value.bitLength() > 20 || !in(value.intValue(), low, high)) throw fault();
            at++;
            return value.intValue();
        }

        List<Clause> all() {
            List<Clause> clauses = new ArrayList<>();
            do {
                if (clauses.size() == 12) throw fault();
                clauses.add(clause());
            } while (eat(";"));
            if (at < tokens.size()) throw fault();
            return clauses;
        }

        private Clause clause() {
            Clause clause = new Clause();
            clause.kind = now();
            if (!orders) {
                if (eat("worth")) clause.first = sum();
                else if (!eat("shuns") && !eat("fades") && !eat("bars")) throw fault();
            } else if (!eat("pass")) {
                String link = eat("read") ? "to" : eat("answer") ? "by" : eat("lose") ? "of" : null;
                if (link == null) throw fault();
                clause.first = sum();
                must(link);
                clause.second = sum();
            }
            if (orders && eat("times")) clause.times = number(1, 20);
            if (eat("if")) clause.test = test();
            return clause;
        }

        private Test test() {
            Test left = both();
            if (!eat("or")) return left;
            return or(left, test());
        }

        // grouped to the right: asked from the left all the same
        private static Test or(Test left, Test right) {
            return w -> left.so(w) || right.so(w);
        }

        private Test both() {
            Test left = plain();
            if (!eat("and")) return left;
            return and(left, both());
        }

        private static Test and(Test left, Test right) {
            return w -> left.so(w) && right.so(w);
        }

        private Test plain() {
            if (eat("not")) {
                Test not = plain();
                return w -> !not.so(w);
            }
            if (now().equals("(")) {
                enter();
                Test inner = test();
                must(")");
                open--;
                return inner;
            }
            Sum left = sum();
            String sign = now();
            if (!eat("<") && !eat(">") && !eat("=")) throw fault();
            Sum right = sum();
            return w -> {
                int l = left.is(w), r = right.is(w);
                return sign.equals("<") ? l < r : sign.equals(">") ? l > r : l == r;
            };
        }

        private void enter() {
            if (open == 8) throw fault();
            open++;
            at++;
        }

        private Sum sum() {
            Sum sum = term();
            while (now().equals("+") || now().equals("-")) {
                boolean plus = tokens.get(at++).equals("+");
                Sum left = sum, right = term();
                sum = w -> whole(plus ? (long) left.is(w) + right.is(w) : (long) left.is(w) - right.is(w));
            }
            return sum;
        }

        private Sum term() {
            Sum term = part();
            while (now().equals("*") || now().equals("/") || now().equals("%")) {
                String sign = tokens.get(at++);
                Sum left = term, right = part();
                term = w -> {
                    long l = left.is(w), r = right.is(w);
                    if (sign.equals("*")) return whole(l * r);
                    if (r == 0) throw new Broken();
                    return whole(sign.equals("/") ? l / r : l - l / r * r);
                };
            }
            return term;
        }

        private static int whole(long value) {
            if (value > 1000000000L || value < -1000000000L) throw new Broken();
            return (int) value;
        }

        private Sum part() {
            if (now().equals("[")) {
                enter();
                Sum inner = sum();
                must("]");
                open--;
                return inner;
            }
            if (++parts > 50) throw fault();
            String word = now();
            if (word.matches("[0-9]+")) {
                int value = number(0, 1000);
                return w -> value;
            }
            List<String> words = orders ? List.of("day", "done", "latest", "open", "knows", "grown")
                    : List.of("child", "letter", "trait", "knows", "bears", "grown", "house", "served", "day", "mood");
            if (!words.contains(word)) throw fault();
            at++;
            int child = orders && (word.equals("knows") || word.equals("grown")) ? number(0, 5) : -1;
            return w -> w.of(word, child);
        }
    }
}
