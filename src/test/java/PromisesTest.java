/** Each promise of the document by itself: ordinary inputs, the edges it names, wrong inputs. */
public final class PromisesTest {
    private static final int LOW = Integer.MIN_VALUE;
    private static final int HIGH = Integer.MAX_VALUE;
    private static final Checks CHECKS = new Checks();

    private static void due(String call, long got, long want) {
        CHECKS.due(call, got, want);
    }

    private static int law(DeadLetters x, String text) {
        return Checks.law(x, text);
    }

    private static int orders(DeadLetters x, String text) {
        return Checks.orders(x, text);
    }

    /** A house with this law, and it in force. */
    private static DeadLetters under(String text) {
        DeadLetters x = new DeadLetters();
        due("law " + text, law(x, text), 0);
        due("force", x.force(0), -1);
        return x;
    }

    private static String times(String part, int n) {
        return part.repeat(n);
    }

    public static void main(String[] args) {
        aNewObject();
        letters();
        children();
        asking();
        terms();
        tape();
        rows();
        laws();
        lawLimits();
        sums();
        tests();
        ordersRead();
        ordersRun();
        ordersStopped();
        force();
        reading();
        answering();
        losing();
        passing();
        undoing();
        lessons();
        telling();
        hearing();
        matching();
        together();
        clashes();
        later();
        likest();
        lost();
        few();
        compare();
        schools();
        images();
        counts();
        status();
        CHECKS.close();
    }

    private static void aNewObject() {
        CHECKS.about("promise 1");
        DeadLetters x = new DeadLetters();
        int[] first = {0, 0, 0, 0, 0, 0, 0, 0, 0, 0, 0, 0, -1, 0, 2, 0};
        for (int what = 0; what < first.length; what++) {
            due("count(" + what + ")", x.count(what), first[what]);
        }
        due("status", x.status(), 0);
        due("fault", x.fault(), -1);
        due("stopped", x.stopped(), -1);
        due("blots", x.blots(), 0);
        due("drawn", x.drawn(0, 0), -1);
        due("NONE", DeadLetters.NONE, -1);
    }

    private static void letters() {
        CHECKS.about("promises 2, 3");
        DeadLetters x = new DeadLetters();
        due("letter", x.letter(0, 255, 9), 0);
        due("letter", x.letter(255, 0, 0), 1);
        due("at content", x.at(1, 0), 255);
        due("at need", x.at(0, 1), 255);
        due("at house", x.at(0, 2), 9);
        due("at answered", x.at(0, 3), 0);
        int[][] wrong = {{256, 0, 0}, {-1, 0, 0}, {0, 256, 0}, {0, -1, 0}, {0, 0, 10}, {0, 0, -1}, {LOW, HIGH, LOW}};
        for (int[] w : wrong) {
            due("letter that can't be", x.letter(w[0], w[1], w[2]), -1);
        }
        int[][] none = {{2, 0}, {-1, 0}, {0, 4}, {0, -1}, {LOW, LOW}, {HIGH, HIGH}};
        for (int[] w : none) {
            due("at of none", x.at(w[0], w[1]), -1);
        }
        for (int i = 2; i < 8; i++) {
            due("letter", x.letter(i, i, i), i);
        }
        due("no room", x.letter(1, 1, 1), -5);
        due("no number ahead of no room", x.letter(1, 1, 10), -1);
        due("how many", x.count(0), 8);
    }

    private static void children() {
        CHECKS.about("promises 4, 5");
        DeadLetters x = new DeadLetters();
        int[] wrong = {0, 9, -1, LOW, HIGH};
        for (int w : wrong) {
            due("child that can't be", x.child(w), -1);
        }
        due("child", x.child(8), 0);
        due("child", x.child(1), 1);
        due("knows", x.of(1, 0), 0);
        due("bears", x.of(1, 1), 1);
        due("grown", x.of(1, 2), 0);
        for (int i = 2; i < 6; i++) {
            due("child", x.child(i), i);
        }
        due("no room", x.child(1), -5);
        due("no number ahead of no room", x.child(0), -1);
        due("of none", x.of(6, 0), -1);
        due("of none", x.of(-1, 0), -1);
        due("of what", x.of(0, 11), -1);
        due("of what", x.of(0, -1), -1);
        due("of what", x.of(0, HIGH), -1);
        due("of what", x.of(0, LOW), -1);
        due("no law: nothing fades", x.of(0, 10), 0);

        DeadLetters y = under("fades if trait = 7 and letter = 0-1 and house = 0-1 and served = 0-1;fades if trait = child");
        y.child(3);
        y.child(3);
        due("fades 7", y.of(0, 10), 1);
        due("fades 0", y.of(0, 3), 1);
        due("fades 1", y.of(0, 4), 0);
        due("fades 1 of the other", y.of(1, 4), 1);
    }

    private static void asking() {
        CHECKS.about("promise 6");
        DeadLetters x = under("worth 150 if letter = 1;worth 0-5 if letter = 2;worth 3/[letter-3];bars if trait = 0-1 and letter = 1;"
                + "shuns if trait = letter + 1");
        x.letter(6, 3, 1);
        x.letter(1, 2, 1);
        x.letter(1, 2, 1);
        x.letter(1, 2, 1);
        x.child(5);
        due("served none", x.asks(0, 0, 0), 0);
        x.read(0, 0);
        due("knows", x.of(0, 0), 4);
        due("worth below 0", x.asks(0, 0, 1), 0);
        due("the last that holds: 3/-2", x.asks(0, 1, 1), 0);
        due("barred", x.asks(0, 1, 2), 1);
        due("not barred", x.asks(0, 0, 2), 0);
        due("shuns 1 of 0", x.asks(0, 0, 4), 1);
        due("shuns 2 of 0", x.asks(0, 0, 5), 0);
        due("shuns 7 of 3, which is not in it", x.asks(0, 3, 7), 1);
        due("broken: only 150, -5 are told of others, so as many as are served", x.asks(0, 3, 1), 0);
        due("none", x.asks(1, 0, 0), -1);
        due("none", x.asks(0, 4, 0), -1);
        due("none", x.asks(-1, -1, 0), -1);
        due("what", x.asks(0, 0, 11), -1);
        due("what", x.asks(0, 0, -1), -1);
        due("what", x.asks(0, 0, LOW), -1);
        due("what", x.asks(0, 0, HIGH), -1);

        DeadLetters y = under("worth 150 if letter = 1;worth 0-5 if letter = 2");
        y.letter(255, 7, 0);
        y.letter(255, 7, 0);
        y.letter(255, 7, 0);
        y.child(8);
        y.read(0, 0);
        due("without a worth: served", y.asks(0, 0, 1), 3);
        due("at most 99", y.asks(0, 1, 1), 99);
        due("at least 0", y.asks(0, 2, 1), 0);
    }

    private static void terms() {
        CHECKS.about("promise 7");
        DeadLetters x = new DeadLetters();
        due("day", x.terms(0, 999), 0);
        due("day", x.terms(0, 5), 999);
        due("found", x.terms(1, 10), 2);
        due("found", x.terms(1, 0), 10);
        due("mood", x.terms(2, 9), 0);
        due("mood", x.terms(2, 0), 9);
        int[][] wrong = {{0, 1000}, {1, 11}, {2, 10}, {0, -1}, {1, -1}, {2, -1}, {3, 0}, {-1, 0}, {HIGH, LOW}, {LOW, HIGH}};
        for (int[] w : wrong) {
            due("terms that can't be", x.terms(w[0], w[1]), -1);
        }
        due("day stays", x.count(13), 5);
        due("found stays", x.count(14), 0);
        due("mood stays", x.count(15), 0);
    }

    private static void tape() {
        CHECKS.about("promises 8, 9");
        DeadLetters x = new DeadLetters();
        due("end of nothing", x.end(0), 0);
        due("end", x.end(1), -1);
        for (int i = 1; i <= 20; i++) {
            due("feed", x.feed(0, 0, 0, 0, 0), 20 * i);
        }
        due("too many", x.feed(0, 0, 0, 0, 0), -1);
        due("bytes", x.count(6), 400);
        due("end", x.end(381), 381);
        due("too many by one", x.feed(0, 0, 0, 0, 0), -1);
        due("end", x.end(380), 380);
        due("just room", x.feed(0, 0, 0, 0, 0), 400);
        due("end below", x.end(-1), -1);
        due("end beyond", x.end(401), -1);
        due("end beyond", x.end(HIGH), -1);
        due("end below", x.end(LOW), -1);
        due("none of these are refused", x.count(7) + x.count(10), 0);
        due("end", x.end(0), 0);
        x.feed(0x01020304, 0xff090509, 0x80000000, 0x00000000, 0x00000000);
        x.end(9);
        due("row", x.row(), 2);
        due("the highest first", x.at(0, 0), 1);
        due("the next", x.at(0, 1), 2);
        due("the next", x.at(0, 2), 3);
        due("the lowest", x.at(1, 0), 4);
        due("without sign", x.at(1, 1), 255);
        due("blot of house 128", x.blots(), 1);
        due("letters", x.count(0), 2);
    }

    private static void rows() {
        CHECKS.about("promises 10, 11");
        DeadLetters x = new DeadLetters();
        due("empty", x.row(), -6);
        due("blots", x.blots(), 0);
        due("row", Checks.row(x, 255, 128, 9, 1, 2, 10, 3, 4, 0, 7), 2);
        due("blots", x.blots(), 2);
        due("content", x.at(0, 0), 255);
        due("need", x.at(0, 1), 128);
        due("house", x.at(1, 2), 0);
        due("the tape is empty", x.count(6), 0);
        due("empty again", x.row(), -6);
        due("blots of the latest that was not refused", x.blots(), 2);
        due("only blots", Checks.row(x, 1, 1), 0);
        due("blots", x.blots(), 1);
        due("one by one", Checks.row(x, 1, 1, 1), 1);
        due("no blots", x.blots(), 0);
        due("no room for all", Checks.row(x, 1, 1, 1, 1, 1, 1, 1, 1, 1, 1, 1, 1, 1, 1, 1, 1, 1, 1, 1, 1, 1), 5);
        due("blots", x.blots(), 2);
        due("letters", x.count(0), 8);
        x.child(1);
        x.read(0, 0);
        due("full, not refused", Checks.row(x, 1, 1, 1), 0);
        due("nothing ahead of it can be undone", x.undo(), -3);

        DeadLetters y = new DeadLetters();
        y.feed(0x01010101, 0x01010101, 0, 0, 0);
        y.end(5);
        due("the tape ends within the second", y.row(), 1);
        due("a blot, whatever stood behind the end", y.blots(), 1);
        y.feed(0x01010101, 0x01010101, 0, 0, 0);
        y.end(1);
        due("the tape ends within the first", y.row(), 0);
        due("a blot", y.blots(), 1);
    }

    /** A text, where its fault is due: NONE if it has none. */
    private static void faultOf(boolean inOrders, String text, int place) {
        DeadLetters x = new DeadLetters();
        int answer = inOrders ? orders(x, text) : law(x, text);
        if (place == -1) {
            due("no fault in " + text, x.fault(), -1);
            due("read " + text, answer == -6 ? 1 : 0, 0);
        } else {
            due("answer to " + text, answer, -6);
            due("fault of " + text, x.fault(), place);
        }
        due("the tape is empty", x.count(6), 0);
    }

    private static void laws() {
        CHECKS.about("promises 12, 14");
        faultOf(false, "worth 1", -1);
        faultOf(false, "  worth   1  ;shuns;fades;bars if child<letter  ", -1);
        faultOf(false, "worth[1]if(1=1)", -1);
        faultOf(false, "worth1if1=1", -1);
        faultOf(false, "worth child+letter-trait*knows/bears%grown+house+served+day+mood", -1);
        faultOf(false, "shuns if not not not 1 = 1 and not (1 < 2 or 3 > 4)", -1);
        faultOf(false, "worth 00001000", -1);
        faultOf(false, "", 0);
        faultOf(false, "   ", 3);
        faultOf(false, "worth", 5);
        faultOf(false, "worth  ", 7);
        faultOf(false, ";", 0);
        faultOf(false, "shuns;", 6);
        faultOf(false, "shuns; ;", 7);
        faultOf(false, "shuns 1", 6);
        faultOf(false, "shunsif", 0);
        faultOf(false, "Shuns", 0);
        faultOf(false, "shuns\t", 5);
        faultOf(false, "shuns" + (char) 255, 5);
        faultOf(false, "worth 1001", 6);
        faultOf(false, "worth 4294967297", 6);
        faultOf(false, "worth -1", 6);
        faultOf(false, "worth 1 2", 8);
        faultOf(false, "worth (1)", 6);
        faultOf(false, "worth [1", 8);
        faultOf(false, "worth [1)", 8);
        faultOf(false, "worth []", 7);
        faultOf(false, "worth open", 6);
        faultOf(false, "worth done", 6);
        faultOf(false, "worth know", 6);
        faultOf(false, "worth knowss", 6);
        faultOf(false, "worth knows 1", 12);
        faultOf(false, "bars if", 7);
        faultOf(false, "bars if 1", 9);
        faultOf(false, "bars if 1 + ", 12);
        faultOf(false, "bars if 1 < 2 < 3", 14);
        faultOf(false, "bars if [1 < 2]", 11);
        faultOf(false, "bars if (1 + 2) < 3", 14);
        faultOf(false, "bars if 1 = 1 or", 16);
        faultOf(false, "bars if 1 = 1 or or", 17);
        faultOf(false, "bars if not", 11);
        faultOf(false, "bars if (1 = 1", 14);
        faultOf(false, "bars if (1 = 1))", 15);
        faultOf(false, "bars times 2", 5);
        faultOf(false, "pass", 0);
        faultOf(false, "bars if 1 = 1 if 1 = 1", 14);

        DeadLetters x = new DeadLetters();
        for (int i = 0; i < 6; i++) {
            due("law", law(x, "worth 1"), i);
        }
        due("a fault", orders(x, "pas"), -6);
        due("no room", law(x, "wor"), -5);
        due("the tape is empty then, too", x.count(6), 0);
        due("it read no text", x.fault(), 0);
        due("orders read one", orders(x, "pass"), 1);
        due("no fault then", x.fault(), -1);
        due("laws", x.count(4), 6);
    }

    private static void lawLimits() {
        CHECKS.about("promises 12, 13, 14: limits of texts");
        faultOf(false, times("bars;", 11) + "bars", -1);
        faultOf(false, times("bars;", 12) + "bars", 60);
        faultOf(false, times("bars;", 12) + "  bars", 62);
        faultOf(false, times("bars;", 12), 60);
        faultOf(false, "worth " + times("1+", 49) + "1", -1);
        faultOf(false, "worth " + times("1+", 50) + "1", 106);
        faultOf(false, "worth " + times("1+", 48) + "day;bars if 1 = 1", 118);
        faultOf(false, "worth " + times("1+", 49) + "[mood+1]", 110);
        faultOf(false, "worth " + times("[", 8) + "1" + times("]", 8), -1);
        faultOf(false, "worth " + times("[", 9) + "1" + times("]", 9), 14);
        faultOf(false, "bars if " + times("(", 8) + "1=1" + times(")", 8), -1);
        faultOf(false, "bars if " + times("(", 9) + "1=1" + times(")", 9), 16);
        faultOf(false, "bars if " + times("(", 4) + times("[", 4) + "1" + times("]", 4) + "=1" + times(")", 4), -1);
        faultOf(false, "bars if " + times("(", 4) + times("[", 5) + "1" + times("]", 5) + "=1" + times(")", 4), 16);
        faultOf(false, "bars if " + times("(1=1)and", 8) + "(1=1)", -1);
        faultOf(true, "read " + times("1+", 48) + "1 to 1 times 2", -1);
        faultOf(true, "read " + times("1+", 48) + "knows 1 to knows 1 times 2 if 1 = 1", 131);
        faultOf(true, "read " + times("1+", 49) + "1 to 1", 108);
        faultOf(true, times("pass;", 12) + "pass", 60);

        DeadLetters x = under("bars if " + times("not ", 97) + "1=1");
        x.letter(1, 1, 1);
        x.child(1);
        due("97 nots", x.asks(0, 0, 2), 0);
        DeadLetters y = under("bars if " + times("not ", 96) + "1=1");
        y.letter(1, 1, 1);
        y.child(1);
        due("96 nots", y.asks(0, 0, 2), 1);
    }

    /** What a law's worth tells; NONE: that it does not hold (then 7 are served). */
    private static void worth(String sum, int want) {
        DeadLetters x = under("worth " + sum);
        x.letter(255, 127, 3);
        x.child(8);
        x.read(0, 0);
        x.terms(0, 12);
        x.terms(2, 4);
        due("worth " + sum, x.asks(0, 0, 1), want == -1 ? 7 : want);
    }

    private static void sums() {
        CHECKS.about("promise 12: sums");
        worth("2+3*4", 14);
        worth("[2+3]*4", 20);
        worth("20-5-3", 12);
        worth("64/4/2", 8);
        worth("7%4*2", 6);
        worth("50+[0-7]/2", 47);
        worth("50+[0-7]%4", 47);
        worth("50+7%[0-4]", 53);
        worth("50+7/[0-4]", 49);
        worth("1/0", -1);
        worth("1%0", -1);
        worth("0*[1/0]", -1);
        worth("1000*1000*1000", 99);
        worth("1000*1000*1000+1", -1);
        worth("1000*1000*1000-1000*1000*1000+5", 5);
        worth("[1000*1000*1000+1]-1000*1000*1000", -1);
        worth("0-1000*1000*1000", 0);
        worth("0-1000*1000*1000-1", -1);
        worth("1000*1000*1000*1000/1000", -1);
        worth("1000*1000*1000*1000*1000*1000*1000", -1);
        worth("child", 0);
        worth("letter+50", 50);
        worth("trait+50", 49);
        worth("knows", 8);
        worth("bears*2", 16);
        worth("grown", 1);
        worth("house", 3);
        worth("served*3", 21);
        worth("day", 12);
        worth("mood", 4);
        worth("3;worth 4", 4);
        worth("3;worth 4 if 1=2", 3);
        worth("3;worth 4/0", 3);
        worth("3;worth 4 if 1/0=1", 3);
        worth("3 if 1=2;worth 4 if 2=1", -1);
        worth("100", 99);
    }

    /** Whether a law's bars with this test hold. */
    private static void test(String test, boolean want) {
        DeadLetters x = under("bars if " + test);
        x.letter(1, 1, 1);
        x.child(1);
        due("bars if " + test, x.asks(0, 0, 2), want ? 1 : 0);
    }

    private static void tests() {
        CHECKS.about("promise 12: tests");
        test("1 < 2", true);
        test("2 < 2", false);
        test("3 > 2", true);
        test("2 > 2", false);
        test("2 = 2", true);
        test("2 = 3", false);
        test("not 1 = 2", true);
        test("not not 1 = 2", false);
        test("1=1 or 1=1 and 1=2", true);
        test("(1=1 or 1=1) and 1=2", false);
        test("1=2 and 1=2 or 1=1", true);
        test("1=2 and (1=2 or 1=1)", false);
        test("not 1=2 and 1=2", false);
        test("not (1=2 and 1=2)", true);
        test("1/0=1", false);
        test("not 1/0=1", false);
        test("not (1/0=1)", false);
        test("1=1 or 1/0=1", true);
        test("1=2 or 1/0=1", false);
        test("1/0=1 or 1=1", false);
        test("not (1=2 and 1/0=1)", true);
        test("not (1=1 and 1/0=1)", false);
        test("1=2 and 1/0=1 or 1=1", true);
        test("1=2 or 1=1 or 1/0=1", true);
        test("1=1 and 1=2 and 1/0=1 or 1=1", true);
        test("(1=1 or 1/0=1) and not (1=2 and 1/0=1)", true);
        test("1000*1000*1000 > 0", true);
        test("1000*1000*1000*2 > 0", false);
    }

    private static void ordersRead() {
        CHECKS.about("promises 13, 14");
        faultOf(true, "pass", -1);
        faultOf(true, "read 0 to 0 times 20 if 1 = 1", -1);
        faultOf(true, "answer knows 5+grown 0 by latest*[done-open]/day", -1);
        faultOf(true, "pass times020", -1);
        faultOf(true, "", 0);
        faultOf(true, "  ", 2);
        faultOf(true, "worth 1", 0);
        faultOf(true, "read", 4);
        faultOf(true, "read 0", 6);
        faultOf(true, "read 0 by 0", 7);
        faultOf(true, "answer 0 to 0", 9);
        faultOf(true, "lose 0 by 0", 7);
        faultOf(true, "read 0 to", 9);
        faultOf(true, "pass 1", 5);
        faultOf(true, "pass times", 10);
        faultOf(true, "pass times 0", 11);
        faultOf(true, "pass times 21", 11);
        faultOf(true, "pass times day", 11);
        faultOf(true, "pass times 1+1", 12);
        faultOf(true, "pass times 1 times 2", 13);
        faultOf(true, "pass if 1=1 times 2", 12);
        faultOf(true, "read knows to 0", 11);
        faultOf(true, "read knows 6 to 0", 11);
        faultOf(true, "read grown day to 0", 11);
        faultOf(true, "read child to 0", 5);
        faultOf(true, "read mood to 0", 5);
        faultOf(true, "read day 1 to 0", 9);
    }

    private static DeadLetters small() {
        DeadLetters x = new DeadLetters();
        x.letter(7, 1, 1);
        x.letter(24, 16, 2);
        x.letter(1, 2, 0);
        x.child(8);
        x.child(2);
        return x;
    }

    private static void ordersRun() {
        CHECKS.about("promise 13");
        DeadLetters x = small();
        due("two", orders(x, "read 0 to 0;read 1 to 1"), 2);
        due("knows", x.of(0, 0), 7);
        due("knows", x.of(1, 0), 24);
        due("times", orders(x, "read 2 to 0 times 20"), 20);
        due("grown", x.of(0, 2), 21);
        due("none run", orders(x, "pass if 1 = 2;pass if 1/0 = 1"), 0);
        due("day", x.count(13), 0);
        due("asked each time", orders(x, "pass times 9 if day < 3"), 3);
        due("done", orders(x, "pass times 20 if done < 5"), 5);
        due("latest: -1 is none", orders(x, "pass if latest = 0 - 1"), 1);
        due("latest: of the answer, not of other deeds", orders(x, "answer 1 by 1;pass;read 0 to 0;pass if latest = 1"), 4);
        due("latest is of this text", orders(x, "pass if latest = 1"), 0);
        due("open", orders(x, "pass times open"), -6);
        due("open", orders(x, "pass if open = 2;answer 0 by 0;pass if open = 1"), 3);
        due("knows, grown", orders(x, "pass if knows 0 = 3;pass if knows 1 = 2;pass if grown 1 = 1"), 3);
        due("no such child", orders(x, "pass if knows 2 = 0-1;pass if grown 5 = 0-1"), 2);
        due("sums", orders(x, "lose [1+1]*1 of 3-knows 0;lose 3 of knows 1 - 1"), 2);
        due("knows", x.of(0, 0), 3);
        due("knows", x.of(1, 0), 16);
    }

    private static void ordersStopped() {
        CHECKS.about("promises 13, 15");
        DeadLetters x = small();
        x.read(0, 0);
        due("stopped ahead of any", x.stopped(), -1);
        String[] wrong = {"read 3 to 0", "read 0 to 2", "read 0-1 to 0", "read 1/0 to 0", "read 0 to 1/0", "answer 2 by 0", "answer 9 by 0",
            "lose 3 of 0", "lose 8 of 0", "lose 0 of 7", "lose 1000*1000*1000*9 of 0"};
        for (String w : wrong) {
            due(w, orders(x, "pass;answer 0 by 0;read 1 to 1;" + w), -3);
            due("stopped", x.stopped(), 3);
            due("day as it was", x.count(13), 0);
            due("answers as they were", x.at(0, 3), 0);
            due("knows as it was", x.of(1, 0), 0);
            due("what can be undone", x.count(5), 1);
            due("no fault", x.fault(), -1);
        }
        due("only the orders are counted", x.count(9), wrong.length);
        due("and nothing else", x.count(7) + x.count(8), 0);
        due("answered twice", orders(x, "answer 0 by 0 times 2"), -3);
        due("stopped", x.stopped(), 0);
        due("one that is not run stops nothing", orders(x, "read 9 to 9 if 1 = 2;pass"), 1);
        due("not stopped", x.stopped(), -1);
        due("stopped", orders(x, "read 9 to 9"), -3);
        due("no text", orders(x, "rea"), -6);
        due("not stopped", x.stopped(), -1);

        for (int i = 0; i < 20; i++) {
            x.read(0, 0);
        }
        x.lose(0, 0);
        due("twenty and more, then none", orders(x, "pass times 20;read 1 to 0 times 20;read 9 to 9"), -3);
        due("what can be undone is whole", x.count(5), 16);
        due("undo", x.undo(), 2);
        for (int i = 0; i < 15; i++) {
            due("undo", x.undo(), 0);
        }
        due("undo", x.undo(), -3);
        x.terms(0, 998);
        due("at 999 it can't be", orders(x, "pass;pass"), -3);
        due("stopped", x.stopped(), 1);
        due("day", x.count(13), 998);
    }

    private static void force() {
        CHECKS.about("promise 16");
        DeadLetters x = new DeadLetters();
        due("none", x.force(0), -2);
        due("none is none", x.force(-1), -1);
        law(x, "worth 5");
        law(x, "worth 6");
        due("was none", x.force(1), -1);
        due("was 1", x.force(0), 1);
        due("no such", x.force(2), -2);
        due("no such", x.force(-2), -2);
        due("no such", x.force(HIGH), -2);
        due("no such", x.force(LOW), -2);
        due("stays", x.count(12), 0);
        due("was 0", x.force(-1), 0);
        due("none", x.count(12), -1);
        due("not refused", x.status(), 0);
    }

    private static void reading() {
        CHECKS.about("promise 17");
        DeadLetters x = small();
        due("read", x.read(0, 1), 2);
        due("the lowest first", x.of(1, 0), 3);
        due("no more than it bears", x.read(1, 1), 0);
        due("grown", x.of(1, 2), 2);
        due("no letter", x.read(3, 0), -2);
        due("no child", x.read(0, 2), -2);
        due("neither", x.read(-1, -1), -2);
        due("neither", x.read(HIGH, LOW), -2);
        for (int i = 0; i < 120; i++) {
            x.read(2, 0);
        }
        due("99 at most", x.of(0, 2), 99);
        due("one trait", x.of(0, 0), 1);

        DeadLetters y = under("shuns if knows = 1 and trait = 1;shuns if served = 2");
        y.letter(127, 5, 1);
        y.child(8);
        due("knows as it is then", y.read(0, 0), 2);
        due("0, then not 1, 2, then no more", y.of(0, 0), 5);
        DeadLetters z = under("shuns if grown = 0");
        z.letter(3, 0, 0);
        z.child(8);
        due("grown behind that", z.read(0, 0), 0);
        due("then", z.read(0, 0), 2);
    }

    private static void answering() {
        CHECKS.about("promise 18");
        DeadLetters x = small();
        x.read(0, 0);
        due("no letter", x.answer(3, 0), -2);
        due("no child", x.answer(0, 2), -2);
        due("no letter", x.answer(LOW, 0), -2);
        due("no house", x.answer(2, 0), -3);
        due("answer", x.answer(0, 0), 1);
        due("answered", x.at(0, 3), 1);
        due("twice", x.answer(0, 1), -3);
        due("worth nothing", x.answer(1, 0), 0);
        due("no child ahead of answered", x.answer(0, 5), -2);
        due("open", x.count(1), 1);

        DeadLetters y = under("worth 42;bars if child = 0");
        y.letter(1, 1, 1);
        y.child(1);
        y.child(1);
        due("barred", y.answer(0, 0), -3);
        due("not barred", y.answer(0, 1), 42);
    }

    private static void losing() {
        CHECKS.about("promise 19");
        DeadLetters x = small();
        x.read(0, 0);
        due("knows it not", x.lose(3, 0), -3);
        due("no trait", x.lose(8, 0), -1);
        due("no trait ahead of no child", x.lose(-1, 9), -1);
        due("no trait", x.lose(HIGH, 0), -1);
        due("no child", x.lose(0, 2), -2);
        due("no child", x.lose(0, LOW), -2);
        due("lose", x.lose(1, 0), 2);
        due("knows", x.of(0, 0), 5);
        due("lose", x.lose(0, 0), 1);
        due("lose", x.lose(2, 0), 0);
        due("lose", x.lose(2, 0), -3);
        due("grown stays", x.of(0, 2), 1);
    }

    private static void passing() {
        CHECKS.about("promise 20");
        DeadLetters x = under("fades if knows = 3;fades if trait = 4 and day = 1");
        x.letter(7, 0, 0);
        x.letter(24, 0, 0);
        x.child(8);
        x.child(8);
        x.read(0, 0);
        x.read(1, 1);
        due("pass", x.pass(), 1);
        due("all asked as it was ahead", x.of(0, 0), 0);
        due("not yet", x.of(1, 0), 24);
        due("pass", x.pass(), 2);
        due("day as it was ahead", x.of(1, 0), 8);
        x.terms(0, 998);
        due("pass", x.pass(), 999);
        due("can't", x.pass(), -3);
        due("day", x.count(13), 999);
    }

    private static void undoing() {
        CHECKS.about("promise 21");
        DeadLetters x = under("fades");
        due("none", x.undo(), -3);
        x.letter(3, 1, 1);
        x.child(8);
        x.read(0, 0);
        x.answer(0, 0);
        x.lose(1, 0);
        x.pass();
        due("undoable", x.count(5), 4);
        due("knows", x.of(0, 0), 0);
        due("pass", x.undo(), 3);
        due("day", x.count(13), 0);
        due("knows", x.of(0, 0), 1);
        due("lose", x.undo(), 2);
        due("knows", x.of(0, 0), 3);
        due("answer", x.undo(), 1);
        due("answered", x.at(0, 3), 0);
        due("read", x.undo(), 0);
        due("knows", x.of(0, 0), 0);
        due("grown", x.of(0, 2), 0);
        due("none", x.undo(), -3);
        x.read(0, 0);
        x.read(0, 0);
        due("read", x.undo(), 0);
        due("grown", x.of(0, 2), 1);
        due("knows", x.of(0, 0), 3);
        x.undo();
        for (int i = 0; i < 17; i++) {
            x.pass();
        }
        due("16 are kept", x.count(5), 16);
        for (int i = 0; i < 16; i++) {
            x.undo();
        }
        due("the first stays", x.count(13), 1);
        due("none", x.undo(), -3);

        for (int i = 0; i < 4; i++) {
            x.pass();
            if (i == 0) x.letter(1, 1, 1);
            if (i == 1) x.child(1);
            if (i == 2) x.terms(2, 0);
            if (i == 3) Checks.row(x, 1, 1, 1);
            due("nothing ahead of that", x.undo(), -3);
        }
        x.pass();
        x.letter(256, 0, 0);
        x.child(0);
        x.terms(0, -1);
        x.row();
        law(x, "worth 1");
        x.force(-1);
        x.told(1, 1);
        x.image(0);
        due("what is refused or of another kind is not in the way", x.undo(), 3);
        due("orders", orders(x, "read 0 to 0;pass;lose 0 of 0"), 3);
        due("lose", x.undo(), 2);
        due("pass", x.undo(), 3);
        due("read", x.undo(), 0);
        due("none", x.undo(), -3);
    }

    private static void lessons() {
        CHECKS.about("promise 22");
        DeadLetters x = new DeadLetters();
        x.letter(1, 0, 0);
        x.letter(2, 7, 0);
        x.letter(4, 8, 0);
        x.letter(6, 3, 0);
        x.child(8);
        x.child(2);
        due("nothing needed", x.lesson(0, 0, -1), 0);
        due("no first", x.lesson(0, 0, 0), -1);
        due("1, 2, 4", x.lesson(0, 1, -1), 2);
        due("the first row", x.lesson(0, 1, 0), 0);
        due("the first row", x.lesson(0, 1, 1), 3);
        due("no third", x.lesson(0, 1, 2), -1);
        due("nobody has it", x.lesson(0, 2, -1), -1);
        due("more than it bears", x.lesson(1, 1, -1), -1);
        due("0 then 1", x.lesson(1, 3, -1), 2);
        due("0", x.lesson(1, 3, 0), 0);
        due("1", x.lesson(1, 3, 1), 1);
        due("none", x.lesson(2, 0, -1), -1);
        due("none", x.lesson(0, 4, -1), -1);
        due("i", x.lesson(0, 1, -2), -1);
        due("i", x.lesson(0, 1, HIGH), -1);
        due("i", x.lesson(0, 1, LOW), -1);
        due("on paper", x.of(0, 0) + x.of(0, 2), 0);

        DeadLetters y = under("shuns if trait = 1 and knows < 2;shuns if trait = 2 and grown = 1");
        y.letter(7, 2, 0);
        y.letter(9, 4, 0);
        y.child(8);
        due("one behind the other: 0 gives 0, 2; again 1", y.lesson(0, 0, -1), 2);
        due("0", y.lesson(0, 0, 0), 0);
        due("0", y.lesson(0, 0, 1), 0);
        due("one is enough", y.lesson(0, 1, -1), 1);
        y.read(1, 0);
        due("grown as now: 2 is shunned", y.lesson(0, 1, -1), -1);
    }

    private static void telling() {
        CHECKS.about("promises 23, 24");
        DeadLetters x = new DeadLetters();
        int[][] wrong = {{8, 0}, {-1, 0}, {0, 2}, {0, -1}, {HIGH, LOW}};
        for (int[] w : wrong) {
            due("told that can't be", x.told(w[0], w[1]), -1);
        }
        for (int i = 0; i < 8; i++) {
            due("told", x.told(i, i % 2), i + 1);
        }
        due("no room", x.told(0, 0), -5);
        due("no number", x.told(0, 2), -1);
        due("told", x.count(3), 8);
        due("forget", x.forget(), 8);
        due("nothing", x.forget(), 0);
        due("forget is not one of those", x.status(), -1);
        due("again", x.told(0, 0), 1);
    }

    private static void hearing() {
        CHECKS.about("promises 25, 26");
        DeadLetters x = new DeadLetters();
        due("no child", x.heard(0, -1), -1);
        due("no child", x.ask(0, 0), -1);
        x.child(2);
        due("no letters: the empty set", x.heard(0, -1), 1);
        due("the empty set", x.heard(0, 0), 0);
        x.letter(1, 0, 0);
        x.letter(6, 0, 0);
        x.child(8);
        x.read(0, 1);
        due("all sets", x.heard(1, -1), 4);
        x.told(2, 1);
        due("of one who bears 2", x.heard(0, -1), 1);
        due("1 alone", x.heard(0, 0), 2);
        due("of one who bears 8", x.heard(1, -1), 2);
        due("both", x.heard(1, 1), 3);
        due("no third", x.heard(1, 2), -1);
        due("i", x.heard(1, -2), -1);
        due("i", x.heard(1, HIGH), -1);
        due("trait 0 parts them", x.ask(1, 0), 0);
        due("one is left", x.ask(1, 1), 1);
        due("what", x.ask(1, 2), -1);
        due("what", x.ask(1, -1), -1);
        x.told(0, 0);
        due("told not", x.heard(1, -1), 1);
        due("all are alike: the lowest", x.ask(1, 0), 0);
        due("one", x.ask(1, 1), 1);
        x.told(0, 1);
        due("both can't be", x.heard(1, -1), 0);
        due("no sets", x.ask(1, 0), -1);
        due("no sets", x.ask(1, 1), -1);
        due("nothing was read", x.of(1, 0), 1);

        DeadLetters y = new DeadLetters();
        y.letter(3, 0, 0);
        y.letter(2, 0, 0);
        y.letter(4, 0, 0);
        y.child(8);
        due("0 parts 4 and 4", y.ask(0, 0), 0);
        y.told(1, 1);
        due("of 6 sets 2 parts 3 and 3", y.ask(0, 0), 2);
        due("3", y.ask(0, 1), 3);
    }

    private static void matching() {
        CHECKS.about("promise 27");
        DeadLetters x = under("worth 9 if child = 0 and letter = 0;worth 8 if child = 0 and letter = 1;worth 7 if child = 1 and letter = 0;"
                + "worth 1 if child = 1 and letter = 1;bars if child = 2 and letter < 2");
        x.letter(0, 0, 1);
        x.letter(0, 0, 1);
        x.letter(0, 0, 0);
        x.child(1);
        x.child(1);
        x.child(1);
        due("the most", x.matched(0), 15);
        due("0 with 1", x.matched(1), 1);
        due("1 with 0", x.matched(2), 0);
        due("2 with none", x.matched(3), 100);
        due("no such", x.matched(4), -1);
        due("no such", x.matched(-1), -1);
        due("no such", x.matched(LOW), -1);
        due("no such", x.matched(HIGH), -1);
        x.answer(0, 1);
        due("0 is answered", x.matched(0), 8);
        due("0 with 1", x.matched(1), 1);
        due("1 with none", x.matched(2), 100);

        DeadLetters y = new DeadLetters();
        due("nobody", y.matched(0), 0);
        y.child(1);
        due("no letters", y.matched(0), 0);
        due("none", y.matched(1), 100);
        y.letter(0, 0, 1);
        y.letter(0, 0, 1);
        y.child(1);
        y.child(1);
        due("worth nothing", y.matched(0), 0);
        due("a letter is ahead of none", y.matched(1), 0);
        due("a letter is ahead of none", y.matched(2), 1);
        due("none", y.matched(3), 100);
    }

    private static void together() {
        CHECKS.about("promise 28");
        DeadLetters x = new DeadLetters();
        x.letter(1, 0, 0);
        x.letter(2, 7, 0);
        x.letter(6, 6, 0);
        x.letter(0, 16, 0);
        due("nothing needed, nobody", x.together(0, 0), 0);
        x.child(8);
        x.child(8);
        x.child(8);
        x.read(1, 0);
        x.read(0, 1);
        x.read(2, 2);
        due("two", x.together(1, 0), 2);
        due("1 and 2", x.together(1, 1), 6);
        due("one", x.together(2, 0), 1);
        due("2", x.together(2, 1), 4);
        due("none needed", x.together(0, 1), 0);
        due("not by all", x.together(3, 0), -1);
        due("not by all", x.together(3, 1), -1);
        due("what", x.together(1, 2), -1);
        due("what", x.together(1, -1), -1);
        due("no letter", x.together(4, 0), -1);
        x.read(2, 1);
        due("1 alone", x.together(1, 1), 2);
        x.read(1, 2);
        x.read(0, 0);
        x.read(2, 0);
        due("the lowest", x.together(1, 1), 1);

        DeadLetters y = new DeadLetters();
        y.letter(2, 6, 0);
        y.letter(4, 0, 0);
        for (int i = 0; i < 3; i++) {
            y.child(8);
        }
        y.read(0, 0);
        y.read(1, 1);
        due("two", y.together(0, 1), 3);
        y.read(0, 2);
        y.read(1, 2);
        due("one is fewer than two lower ones", y.together(0, 1), 4);
        due("one", y.together(0, 0), 1);
    }

    private static void clashes() {
        CHECKS.about("promise 29");
        DeadLetters x = new DeadLetters();
        x.letter(1, 2, 5);
        x.letter(2, 0, 5);
        x.letter(2, 2, 5);
        x.letter(2, 2, 4);
        due("0 with 1, 0 with 2", x.clashes(5), 2);
        due("alone", x.clashes(4), 0);
        due("none", x.clashes(9), 0);
        x.letter(3, 2, 5);
        due("0 with 3 letters", x.clashes(5), 3);
        x.letter(0, 1, 5);
        due("both ways count once", x.clashes(5), 5);
        due("one house, 1, has none", x.clashes(1), 0);
        due("no house", x.clashes(0), -1);
        due("no house", x.clashes(10), -1);
        due("no house", x.clashes(LOW), -1);
    }

    private static void later() {
        CHECKS.about("promise 30");
        DeadLetters x = under("fades if trait = day % 8;fades if day > 1000 and trait > 5");
        x.letter(255, 0, 0);
        x.child(8);
        x.read(0, 0);
        due("now", x.later(0, 0), 255);
        due("one", x.later(0, 1), 254);
        due("three", x.later(0, 3), 248);
        due("eight", x.later(0, 8), 0);
        due("60", x.later(0, 60), 0);
        due("61", x.later(0, 61), -1);
        due("below", x.later(0, -1), -1);
        due("no child", x.later(1, 0), -1);
        due("nothing is done", x.of(0, 0), 255);
        x.terms(0, 999);
        due("beyond 999: 7, 0, then 1, 6", x.later(0, 2), 126);
        due("beyond 1000", x.later(0, 3), 60);

        DeadLetters y = under("fades if knows > 2 and trait > 5");
        y.letter(225, 0, 0);
        y.child(8);
        y.read(0, 0);
        due("what it knows then", y.later(0, 60), 33);
    }

    private static void likest() {
        CHECKS.about("promise 31");
        DeadLetters x = new DeadLetters();
        x.letter(15, 0, 0);
        x.letter(3, 0, 0);
        x.letter(240, 0, 0);
        due("no children", x.likest(0, 0), -1);
        x.child(8);
        x.child(8);
        x.child(8);
        due("all alike", x.likest(0, 0), 0);
        due("4", x.likest(0, 1), 4);
        x.read(1, 1);
        x.read(1, 2);
        due("the lowest of two", x.likest(0, 0), 1);
        due("2", x.likest(0, 1), 2);
        due("who knows nothing", x.likest(2, 0), 0);
        due("4", x.likest(2, 1), 4);
        due("none", x.likest(3, 0), -1);
        due("what", x.likest(0, 2), -1);
        due("what", x.likest(0, -1), -1);
    }

    private static void lost() {
        CHECKS.about("promise 32");
        DeadLetters x = new DeadLetters();
        due("none", x.lost(), 0);
        x.letter(1, 0, 1);
        x.letter(2, 3, 1);
        x.letter(4, 4, 0);
        due("nobody", x.lost(), 6);
        x.child(8);
        x.read(0, 0);
        due("half of it", x.lost(), 6);
        x.child(8);
        x.read(1, 1);
        due("by two", x.lost(), 4);
        x.lose(1, 1);
        due("again", x.lost(), 6);
        x.answer(1, 0);
        due("answered", x.lost(), 4);
    }

    private static void few() {
        CHECKS.about("promise 33");
        DeadLetters x = new DeadLetters();
        long all = 1000000000000L;
        due("0 of 0", x.few(1, 0), all);
        due("0 of 1", x.few(1, 1), 800000000000L);
        due("1 of 1", x.few(2, 1), all);
        due("0 of 3", x.few(1, 3), 512000000000L);
        due("1 of 3", x.few(2, 3), 896000000000L);
        due("cut", x.few(1, 99), cutPower(99));
        due("both cut", x.few(20, 13) <= all ? 1 : 0, 1);
        due("k", x.few(0, 1), -1);
        due("k", x.few(21, 1), -1);
        due("n", x.few(1, -1), -1);
        due("n", x.few(1, 100), -1);
        due("k", x.few(LOW, HIGH), -1);
        x.terms(1, 10);
        due("always found", x.few(20, 20), 0);
        due("always found", x.few(20, 19), all);
        x.terms(1, 0);
        due("never found", x.few(1, 99), all);
        x.terms(1, 3);
        due("0 of 1", x.few(1, 1), 700000000000L);
    }

    private static long cutPower(int n) {
        long part = 1000000000000L;
        for (int i = 0; i < n; i++) {
            part = part * 8 / 10;
        }
        return part;
    }

    private static void compare() {
        CHECKS.about("promise 34");
        DeadLetters x = small();
        due("nothing known", x.compare(-1), 0);
        x.read(0, 0);
        due("served", x.compare(-1), 2);
        law(x, "worth 10;worth 100 if child = 1;bars");
        law(x, "worth 3");
        due("by 0", x.compare(0), 3 * 10 + 3 * 99);
        due("by 1", x.compare(1), 18);
        x.force(1);
        due("none in place of 1", x.compare(-1), 2);
        x.answer(0, 0);
        due("answered ones, too", x.compare(1), 18);
        due("none", x.compare(2), -1);
        due("none", x.compare(-2), -1);
        due("none", x.compare(HIGH), -1);
        due("in force", x.count(12), 1);
    }

    private static void schools() {
        CHECKS.about("promises 35, 36");
        DeadLetters x = new DeadLetters();
        due("nothing there", x.schools(0, 1), -3);
        x.letter(3, 1, 1);
        due("no children", x.schools(0, 1), -3);
        due("no number ahead of that", x.schools(-1, 1), -1);
        due("not kept", x.drawn(0, 0), -1);
        x.letter(4, 0, 1);
        x.child(8);
        x.child(8);
        int[][] wrong = {{-1, 1}, {1000001, 1}, {0, 0}, {0, 61}, {LOW, HIGH}};
        for (int[] w : wrong) {
            due("schools that can't be", x.schools(w[0], w[1]), -1);
        }
        // 0: 12345 letter 1; 628731 child 1; 502849 at 1: answered
        due("one answered", x.schools(0, 1), 1);
        due("nothing known", x.drawn(1, 0), 0);
        due("nothing grown", x.drawn(1, 1), 0);
        due("on paper", x.at(1, 3), 0);
        due("on paper", x.count(13), 0);
        due("60", x.schools(1000000, 60), 2);
        due("what", x.drawn(0, 2), -1);
        due("what", x.drawn(0, -1), -1);
        due("child", x.drawn(2, 0), -1);
        due("child", x.drawn(-1, 0), -1);
        int grown = x.drawn(0, 1) + x.drawn(1, 1);
        due("read as often as drawn", grown, drawnReadings(1000000, 60));
        due("refused, so the latest stays", x.schools(-1, 1), -1);
        due("as it was", x.drawn(0, 1) + x.drawn(1, 1), grown);
        x.child(4);
        due("not in those schools", x.drawn(2, 0), -1);
        x.terms(0, 999);
        due("it ends at once", x.schools(0, 60), 0);
        due("as it is", x.drawn(0, 1), 0);
        due("there now", x.drawn(2, 0), 0);
        x.terms(0, 998);
        due("once", x.schools(0, 60), 1);
        due("day", x.count(13), 998);
    }

    private static int drawnReadings(int seed, int n) {
        long s = seed;
        int readings = 0;
        for (int i = 0; i < 3 * n; i++) {
            s = (s * 1103 + 12345) % 1000003;
            if (i % 3 == 2 && s % 3 == 0) {
                readings++;
            }
        }
        return readings;
    }

    private static void images() {
        CHECKS.about("promises 37, 38");
        DeadLetters x = small();
        due("no image", x.image(2), -1);
        due("no image", x.image(-1), -1);
        due("not kept", x.back(0), -2);
        due("no number", x.back(2), -1);
        due("no number", x.back(LOW), -1);
        law(x, "worth 1");
        law(x, "worth 2");
        x.force(0);
        x.told(1, 1);
        x.terms(2, 5);
        x.read(0, 0);
        due("image", x.image(0), 0);
        x.answer(0, 0);
        x.read(1, 1);
        x.letter(9, 9, 9);
        x.child(3);
        x.told(2, 0);
        x.terms(0, 7);
        x.terms(1, 7);
        x.terms(2, 7);
        law(x, "worth 3");
        x.force(2);
        due("image", x.image(1), 0);
        x.pass();
        x.schools(0, 5);
        Checks.row(x, 1);
        orders(x, "read 99 to 99");
        law(x, "wort");
        x.feed(0, 0, 0, 0, 0);
        int refused = x.count(9);
        due("back", x.back(0), 0);
        int[] then = {3, 3, 2, 1, 2, 0, 20};
        for (int what = 0; what < then.length; what++) {
            due("count(" + what + ")", x.count(what), then[what]);
        }
        due("refusals stay", x.count(9), refused);
        due("force", x.count(12), 0);
        due("day", x.count(13), 0);
        due("found", x.count(14), 2);
        due("mood", x.count(15), 5);
        due("not answered", x.at(0, 3), 0);
        due("knows", x.of(0, 0), 7);
        due("knows", x.of(1, 0), 0);
        due("blots stay", x.blots(), 1);
        due("stopped stays", x.stopped(), 0);
        due("fault stays", x.fault(), 0);
        due("the schools stay", x.drawn(2, 0) >= 0 ? 1 : 0, 1);
        due("nothing can be undone", x.undo(), -3);
        due("another law", law(x, "worth 4"), 2);
        due("the images stay", x.back(1), 0);
        due("the law that was then", x.asks(0, 0, 1), 3);
        due("answered then", x.at(0, 3), 1);
        due("day", x.count(13), 7);
        due("force", x.count(12), 2);
        x.answer(1, 1);
        due("back again", x.back(1), 0);
        due("an image is not changed by what comes", x.at(1, 3), 0);
        due("back to the other", x.back(0), 0);
        due("kept anew", x.image(1), 0);
        due("back", x.back(1), 0);
        due("letters", x.count(0), 3);
        imagesKeepWhatIsPutAnew();
    }

    /** What comes into the same places behind back() is not in the other image. */
    private static void imagesKeepWhatIsPutAnew() {
        DeadLetters x = new DeadLetters();
        x.image(0);
        x.letter(7, 6, 5);
        x.child(4);
        x.read(0, 0);
        x.told(1, 1);
        x.image(1);
        x.back(0);
        x.letter(0, 0, 0);
        x.letter(0, 0, 0);
        x.child(1);
        x.told(7, 1);
        due("told", x.heard(0, -1), 0);
        x.back(1);
        due("letters", x.count(0), 1);
        due("content", x.at(0, 0), 7);
        due("need", x.at(0, 1), 6);
        due("house", x.at(0, 2), 5);
        due("knows", x.of(0, 0), 7);
        due("bears", x.of(0, 1), 4);
        due("grown", x.of(0, 2), 1);
        due("told", x.heard(0, -1), 1);
        due("told", x.heard(0, 0), 1);
        x.forget();
        x.told(1, 0);
        due("told not", x.heard(0, 0), 0);
        x.back(1);
        due("told", x.heard(0, 0), 1);
        x.pass();
        x.back(1);
        due("nothing can be undone", x.undo(), -3);
        due("day", x.count(13), 0);
    }

    private static void counts() {
        CHECKS.about("promise 39");
        DeadLetters x = small();
        x.letter(0, 0, -1);
        x.read(9, 9);
        x.force(3);
        x.undo();
        x.undo();
        x.undo();
        for (int i = 0; i < 7; i++) {
            x.child(1);
        }
        x.row();
        x.law();
        x.orders();
        x.at(9, 9);
        x.end(-1);
        x.matched(99);
        due("-1", x.count(7), 1);
        due("-2", x.count(8), 2);
        due("-3", x.count(9), 3);
        due("-5", x.count(10), 3);
        due("-6", x.count(11), 3);
        due("letters", x.count(0), 3);
        due("open", x.count(1), 3);
        due("children", x.count(2), 6);
        x.answer(0, 0);
        due("open", x.count(1), 2);
        due("undoable", x.count(5), 1);
        due("none", x.count(16), -1);
        due("none", x.count(-1), -1);
        due("none", x.count(LOW), -1);
        due("none", x.count(HIGH), -1);
    }

    private static void status() {
        CHECKS.about("promise 40");
        DeadLetters x = new DeadLetters();
        x.letter(-1, 0, 0);
        due("letter", x.status(), -1);
        x.letter(1, 1, 1);
        due("letter", x.status(), 0);
        x.child(0);
        due("child", x.status(), -1);
        x.child(1);
        due("child", x.status(), 0);
        x.terms(9, 9);
        due("terms", x.status(), -1);
        x.terms(0, 0);
        due("terms", x.status(), 0);
        x.row();
        due("row", x.status(), -6);
        law(x, "bars");
        due("law", x.status(), 0);
        law(x, "bar");
        due("law", x.status(), -6);
        orders(x, "pass");
        due("orders", x.status(), 0);
        orders(x, "read 9 to 9");
        due("orders", x.status(), -3);
        x.force(-1);
        due("force", x.status(), 0);
        x.force(9);
        due("force", x.status(), -2);
        x.read(0, 0);
        due("read", x.status(), 0);
        x.read(9, 0);
        due("read", x.status(), -2);
        x.answer(0, 0);
        due("answer", x.status(), 0);
        x.answer(0, 0);
        due("answer", x.status(), -3);
        x.lose(0, 0);
        due("lose", x.status(), 0);
        x.lose(0, 0);
        due("lose", x.status(), -3);
        x.pass();
        due("pass", x.status(), 0);
        x.lose(9, 0);
        x.undo();
        due("undo", x.status(), 0);
        x.told(9, 0);
        due("told", x.status(), -1);
        x.told(0, 0);
        due("told", x.status(), 0);
        x.schools(-1, 0);
        due("schools", x.status(), -1);
        x.schools(0, 1);
        due("schools", x.status(), 0);
        x.image(2);
        due("image", x.status(), -1);
        x.image(1);
        due("image", x.status(), 0);
        x.back(0);
        due("back", x.status(), -2);
        x.forget();
        x.at(0, 0);
        x.feed(0, 0, 0, 0, 0);
        x.end(99);
        x.matched(0);
        x.count(7);
        x.fault();
        due("others leave it", x.status(), -2);
        x.back(1);
        due("back", x.status(), 0);
    }
}
