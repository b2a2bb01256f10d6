/** Promises 12 to 14: TEXTS of both languages at their limits, where their FAULTS are, what is BROKEN. */
public final class TextEdgesTest {
    private static final Checks CHECKS = new Checks();

    private static Run run(int promise, String sentence) {
        return CHECKS.run(promise, sentence);
    }

    public static void main(String[] args) {
        tokens();
        blanks();
        signs();
        tests();
        links();
        clauses();
        parts();
        partsOfOrders();
        brackets();
        numbers();
        timesAndChildren();
        tapeOf400();
        emptyTexts();
        lawRoom();
        faultOfTheLatest();
        limits();
        divisions();
        wraps();
        brokenTests();
        CHECKS.carried(12, 14);
        CHECKS.close();
    }

    private static void law(String sentence, String text, int fault) {
        read(12, sentence, "law()", text, fault);
    }

    private static void orders(String sentence, String text, int fault) {
        read(13, sentence, "orders()", text, fault);
    }

    private static void both(String sentence, String law, String orders, int fault) {
        law(sentence, law, fault);
        orders(sentence, orders, fault);
    }

    /** A TEXT and where its FAULT is; NONE: it has none (whether it can be run is another matter). */
    private static void read(int promise, String sentence, String call, String text, int fault) {
        Run x = run(promise, sentence);
        x.go("letter(1, 1, 1); child(8); pass()");
        if (fault != DeadLetters.NONE) {
            x.refusedText(call, text, -6).quiet("fault()", fault).all("count(4) = 0; count(5) = 1; count(13) = 1");
        } else {
            x.put(text).go(call).all("fault() = -1; count(6) = 0; count(11) = 0");
        }
    }

    private static String times(String part, int n) {
        return part.repeat(n);
    }

    private static void tokens() {
        String others = "single other bytes: those beside a .. z, 0 .. 9 and the blank";
        int[] bytes = {0, 9, 10, 13, 31, 33, 47, 58, 64, 65, 90, 91, 96, 123, 127, 128, 160, 255};
        for (int b : bytes) {
            both(others + ": " + b, "bars" + (char) b, "pass" + (char) b, 4);
            both(others + ": " + b, (char) b + "bars", (char) b + "pass", 0);
        }
        law(others, "worth 1" + (char) 58, 7);
        law(others, "worth 1" + (char) 47, 8);
        law(others, "bars if 1<=1", 10);
        law(others, "bars if 1 < = 1", 12);
        law(others, "worth [[1]]", -1);
        law(others, "bars if ((1=1))", -1);

        String rows = "longest rows of letters a .. z, of digits";
        both(rows, "barsa", "passa", 0);
        both(rows, "barsz", "passz", 0);
        both(rows, "bar", "pas", 0);
        both(rows, "barsif 1=1", "passif 1=1", 0);
        both(rows, "bar s", "pas s", 0);
        both(rows, "bars if1=1", "pass if1=1", -1);
        law(rows, "worth1if1=1or2=2and3=3", -1);
        law(rows, "worth1;bars;shuns;fades", -1);
        law(rows, "worth a1", 6);
        law(rows, "worth 1a", 7);
        law(rows, "worth 1 0", 8);
        law(rows, "worth 10", -1);
        law(rows, "worth daymood", 6);
        law(rows, "worth day mood", 10);
        law(rows, "bars if notnot 1=1", 8);
        orders(rows, "read0to0times1if1=1", -1);
        orders(rows, "read 0to 0 times2 0", 18);
        orders(rows, "read knows0 to grown5", -1);
    }

    private static void blanks() {
        String any = "any blanks (32) between";
        law(any, "  worth  [  1  ]  if  (  1  =  1  )  ;  bars  ", -1);
        orders(any, "  read  0  to  0  times  2  if  not  1  =  1  ;  pass  ", -1);
        String end = "FAULT (the end's: the TEXT's length)";
        both(end, "bars if", "pass if", 7);
        both(end, "bars if ", "pass if ", 8);
        both(end, "bars if   ", "pass if   ", 10);
        both(end, "bars;", "pass;", 5);
        both(end, "bars;  ", "pass;  ", 7);
        law(end, "worth 1+  ", 10);
        law(end, "worth [1  ", 10);
        orders(end, "read 0 to  ", 11);
        orders(end, "read 0  ", 8);
        orders(end, "pass times  ", 12);
        orders(end, "read knows  ", 12);
        String first = "FAULT: the first TOKEN that can't go on there";
        both(first, "   bar;;(", "   pas;;(", 3);
        both(first, "bars   if   ;", "pass   if   ;", 12);
        both(first, "bars if 1=1 bars", "pass if 1=1 pass", 12);
        law(first, "worth if 1=1", 6);
        law(first, "worth 1)", 7);
        law(first, "worth [1)]", 8);
        law(first, "bars if (1=1]", 12);
    }

    private static void signs() {
        String number = "a NUMBER is no sign, whatever its value";
        int[] signs = {'%', '(', ')', '*', '+', '-', '/', ';', '<', '=', '>', '[', ']'};
        for (int sign : signs) {
            law(number, "worth 1 " + sign + " 1", 8);
            law(number, "bars if 1 " + sign + " 1", 10);
            law(number, "bars " + sign + " bars", 5);
        }
        String bytes = "single other bytes that are no signs here, where a sign could stand";
        int[] others = {0, 1, 2, 33, 38, 44, 94, 124, 255};
        for (int other : others) {
            law(bytes, "worth 1" + (char) other + "1", 7);
            law(bytes, "bars if 1" + (char) other + "1", 9);
        }
    }

    private static void tests() {
        String plain = "PLAIN: \"not\" PLAIN | \"(\" TEST \")\" | SUM (\"<\" | \">\" | \"=\") SUM";
        both(plain, "bars if 1", "pass if 1", 9);
        both(plain, "bars if 1 2 3", "pass if 1 2 3", 10);
        both(plain, "bars if 1 and 2=2", "pass if 1 and 2=2", 10);
        both(plain, "bars if 1=", "pass if 1=", 10);
        both(plain, "bars if 1<", "pass if 1<", 10);
        both(plain, "bars if 1>", "pass if 1>", 10);
        both(plain, "bars if 1=)", "pass if 1=)", 10);
        both(plain, "bars if 1=;bars", "pass if 1=;pass", 10);
        both(plain, "bars if 1=1=1", "pass if 1=1=1", 11);
        both(plain, "bars if =1", "pass if =1", 8);
        both(plain, "bars if ()", "pass if ()", 9);
        both(plain, "bars if (1)", "pass if (1)", 10);
        both(plain, "bars if (1=)", "pass if (1=)", 11);
        both(plain, "bars if (1=1", "pass if (1=1", 12);
        both(plain, "bars if (1=1)=1", "pass if (1=1)=1", 13);
        both(plain, "bars if (1=1)+(1=1)", "pass if (1=1)+(1=1)", 13);
        both(plain, "bars if (1=1)*(1=1)", "pass if (1=1)*(1=1)", 13);
        both(plain, "bars if (1=1)<(1=1)", "pass if (1=1)<(1=1)", 13);
        both(plain, "bars if (1=1)(1=1)", "pass if (1=1)(1=1)", 13);
        both(plain, "bars if not", "pass if not", 11);
        both(plain, "bars if not not", "pass if not not", 15);
        both(plain, "bars if 1 not=1", "pass if 1 not=1", 10);
        String more = "TEST: BOTH {\"or\" BOTH}. BOTH: PLAIN {\"and\" PLAIN}";
        both(more, "bars if 1=1 or", "pass if 1=1 or", 14);
        both(more, "bars if 1=1 and", "pass if 1=1 and", 15);
        both(more, "bars if 1=1 and or 1=1", "pass if 1=1 and or 1=1", 16);
        both(more, "bars if or 1=1", "pass if or 1=1", 8);
        both(more, "bars if 1=1 1=1", "pass if 1=1 1=1", 12);
        String part = "PART: NUMBER | \"[\" SUM \"]\" | a word";
        law(part, "worth []", 7);
        law(part, "worth [1=1]", 8);
        law(part, "worth [1", 8);
        law(part, "worth ]", 6);
        law(part, "worth (1)", 6);
        law(part, "worth 1+", 8);
        law(part, "worth 1*", 8);
        law(part, "worth 1**1", 8);
        law(part, "worth +1", 6);
        law(part, "worth 1+*1", 8);
        law(part, "bars if [1=1]", 10);
        law(part, "worth worth", 6);
        law(part, "worth done", 6);
        law(part, "worth latest", 6);
        law(part, "worth open", 6);
        orders(part, "pass if child=1", 8);
        orders(part, "pass if mood=1", 8);
        orders(part, "pass if served=1", 8);
    }

    private static void links() {
        String order = "\"read\" SUM \"to\" SUM | \"answer\" SUM \"by\" SUM | \"lose\" SUM \"of\" SUM | \"pass\"";
        orders(order, "read 0 by 0", 7);
        orders(order, "read 0 of 0", 7);
        orders(order, "read 0 0", 7);
        orders(order, "read 0;pass", 6);
        orders(order, "read to 0", 5);
        orders(order, "read 0 to to 0", 10);
        orders(order, "read 0 to;pass", 9);
        orders(order, "answer 0 to 0", 9);
        orders(order, "answer 0 of 0", 9);
        orders(order, "lose 0 to 0", 7);
        orders(order, "lose 0 by 0", 7);
        orders(order, "pass 0", 5);
        orders(order, "pass to 0", 5);
        orders(order, "worth 1", 0);
        String tail = "[\"times\" TIMES] [\"if\" TEST]";
        orders(tail, "pass times", 10);
        orders(tail, "pass times if 1=1", 11);
        orders(tail, "pass times 2 times 2", 13);
        orders(tail, "pass times 2 2", 13);
        orders(tail, "pass if 1=1 times 2", 12);
        orders(tail, "pass if 1=1 if 1=1", 12);
        orders(tail, "read 0 times 2 to 0", 7);
        String law = "(\"worth\" SUM | \"shuns\" | \"fades\" | \"bars\") [\"if\" TEST]";
        law(law, "bars times 2", 5);
        law(law, "bars 1", 5);
        law(law, "shuns 1", 6);
        law(law, "fades 1", 6);
        law(law, "worth", 5);
        law(law, "worth 1 1", 8);
        law(law, "pass", 0);
        law(law, "if 1=1", 0);
        law(law, "bars if 1=1 if 1=1", 12);
    }

    private static void clauses() {
        String most = "CLAUSE {\";\" CLAUSE}, 12 at most (FAULT at the 13th's first TOKEN)";
        both(most, times("bars;", 11) + "bars", times("pass;", 11) + "pass", -1);
        both(most, times("bars;", 12) + "bars", times("pass;", 12) + "pass", 60);
        both(most, times("bars;", 12) + "   bars", times("pass;", 12) + "   pass", 63);
        both(most, times("bars;", 12) + "   )", times("pass;", 12) + "   )", 63);
        both(most, times("bars;", 12), times("pass;", 12), 60);
        both(most, times("bars;", 12) + " ", times("pass;", 12) + " ", 61);
        both(most, times("bars;", 11), times("pass;", 11), 55);
        both(most, times("bars;", 20) + "bars", times("pass;", 20) + "pass", 60);
        both(most, times("bars;", 11) + "bar;bars", times("pass;", 11) + "pas;pass", 55);
        both(most, times("bars;", 11) + "bars bars;bars", times("pass;", 11) + "pass pass;pass", 60);
        both("a CLAUSE is not empty", ";bars", ";pass", 0);
        both("a CLAUSE is not empty", "bars;;bars", "pass;;pass", 5);

        Run x = run(12, "12 CLAUSES: the last one HOLDS");
        x.go("letter(1, 1, 1); child(8)").under(times("bars if 1=2;", 11) + "bars").is("asks(0, 0, 2)", 1);
        x = run(12, "12 CLAUSES: the first one HOLDS");
        x.go("letter(1, 1, 1); child(8)").under("worth 7;" + times("bars if 1=2;", 10) + "bars if 2=1");
        x.all("asks(0, 0, 2) = 0; asks(0, 0, 1) = 7");
    }

    /** A law's worth of as many PARTS. */
    private static String sum(int parts) {
        return "worth " + times("1+", parts - 1) + "1";
    }

    private static void parts() {
        String most = "50 PARTS that are NUMBERS and words (FAULT at the 51st) at most";
        law(most, sum(50), -1);
        law(most, sum(51), 106);
        law(most, "worth " + times("day+", 49) + "day", -1);
        law(most, "worth " + times("day+", 50) + "day", 206);
        law(most, sum(50) + "+", 106);
        law(most, sum(50) + "+)", 106);
        law(most, sum(50) + "+1001", 106);
        law(most, sum(50) + "+child", 106);
        law(most, sum(50) + "+[1", 107);
        law(most, sum(49) + "+[1]", -1);
        law(most, sum(48) + ";bars if 1=1", -1);
        law(most, sum(49) + ";bars if 1=1", (sum(49) + ";bars if 1=").length());
        law(most, sum(50) + ";bars", -1);
        law(most, sum(50) + ";worth 1", (sum(50) + ";worth ").length());
        law(most, "bars if " + times("1=1or ", 24) + "1=1", -1);
        law(most, "bars if " + times("1=1or ", 25) + "1=1", 158);

        Run x = run(12, "50 PARTS in each TEXT");
        x.go("letter(1, 1, 1); child(8)").law(sum(50), 0).law(sum(51), -6).law(sum(50), 1).all("force(1) = -1; asks(0, 0, 1) = 50");

        x = run(13, "one TEXT behind the other, each as long as can be");
        for (int i = 0; i < 12; i++) {
            x.orders("pass if 49=" + times("1+", 48) + "1", 1);
        }
        x.is("count(13)", 12);

        x = run(12, "50 PARTS, all of them waiting for their turn within brackets and without");
        x.go("letter(1, 1, 1); child(8)").under("worth " + times("1+[", 8) + times("1+", 41) + "1" + times("]", 8)).is("asks(0, 0, 1)", 50);
        x = run(12, "as many as can wait: 1+1*[1+1*[ .. ]]");
        x.go("letter(1, 1, 1); child(8)").under("bars if 1=2 or " + times("1+1*[", 8) + "1+1*1" + times("]", 8) + "=10");
        x.is("asks(0, 0, 2)", 1);
    }

    private static void partsOfOrders() {
        String aside = "C, TIMES aside, NUMBERS and words count as PARTS";
        String read = "read " + times("1+", 48) + "1 to 1";
        orders(aside, read, -1);
        orders(aside, read + " times 20", -1);
        orders(aside, read + " if 1=1", read.length() + 4);
        orders(aside, read + ";pass", -1);
        orders(aside, read + ";pass times 2", -1);
        orders(aside, read + ";lose 1 of 1", read.length() + 6);
        orders(aside, "pass times 2;" + read, -1);
        orders(aside, "pass times 2;" + read + " if 1=1", ("pass times 2;" + read + " if ").length());
        String knows = "read " + times("knows1+", 40) + times("grown5+", 8) + "1 to 1";
        orders(aside, knows + " times 3", -1);
        orders(aside, knows + ";read day to 1", (knows + ";read ").length());
        orders(aside, "pass if " + times("knows0+", 49) + "1<1", (times("knows0+", 49) + "pass if 1<").length());
        orders(aside, "pass if " + times("open+", 48) + "1<latest", -1);
        orders(aside, times("pass times 1;", 11) + "pass times 1", -1);
    }

    private static void brackets() {
        String most = "8 brackets of both kinds within one another (FAULT at the 9th) at most";
        law(most, "worth " + times("[", 8) + "1" + times("]", 8), -1);
        law(most, "worth " + times("[", 9) + "1" + times("]", 9), 14);
        law(most, "bars if " + times("(", 8) + "1=1" + times(")", 8), -1);
        law(most, "bars if " + times("(", 9) + "1=1" + times(")", 9), 16);
        law(most, "bars if " + times("(", 4) + times("[", 4) + "1" + times("]", 4) + "=1" + times(")", 4), -1);
        law(most, "bars if " + times("(", 4) + times("[", 5) + "1" + times("]", 5) + "=1" + times(")", 4), 16);
        law(most, "bars if " + times("(", 7) + "[1]=[1]" + times(")", 7), -1);
        law(most, "bars if " + times("(", 8) + "[1]=[1]" + times(")", 8), 16);
        law(most, "bars if " + times("(", 8) + "1=[1]" + times(")", 8), 18);
        law(most, "bars if " + times("not (", 8) + "1=1" + times(")", 8), -1);
        law(most, "bars if " + times("not (", 9) + "1=1" + times(")", 9), 52);
        law(most, "worth " + times("[", 9), 14);
        law(most, "worth " + times("[", 8), 14);
        orders(most, "read " + times("[", 8) + "1" + times("]", 8) + " to 0", -1);
        orders(most, "read 0 to " + times("[", 9) + "1" + times("]", 9), 18);
        orders(most, "pass if " + times("(", 9) + "1=1" + times(")", 9), 16);

        String beside = "brackets that do not stand within one another";
        law(beside, "worth " + times("[", 8) + "1" + times("]", 8) + "+" + times("[", 8) + "1" + times("]", 8), -1);
        law(beside, "worth " + times("[1]+", 48) + "[1]", -1);
        law(beside, "bars if " + times("(1=1)or ", 20) + "(1=1)", -1);
        law(beside, "bars if " + times("(", 8) + "1=1" + times(")", 8) + "and " + times("[", 8) + "1" + times("]", 8) + "=1", -1);
        law(beside, "worth " + times("[", 8) + "1" + times("]", 8) + ";worth " + times("[", 8) + "1" + times("]", 8), -1);
        law(beside, "worth " + times("[", 7) + "[1]+[1]" + times("]", 7), -1);
    }

    private static void numbers() {
        String to = "NUMBER (to 1,000)";
        law(to, "worth 0", -1);
        law(to, "worth 999", -1);
        law(to, "worth 1000", -1);
        law(to, "worth 1001", 6);
        law(to, "worth 2000", 6);
        law(to, "worth 9999", 6);
        law(to, "worth 10000", 6);
        orders(to, "pass if 1000 < 1000", -1);
        orders(to, "pass if 1000 < 1001", 15);
        law("NUMBERS that would wrap around to 0, 1", "worth 4294967296", 6);
        law("NUMBERS that would wrap around to 0, 1", "worth 4294967297", 6);
        law("NUMBERS that would wrap around to 0, 1", "worth 18446744073709551616", 6);
        law("NUMBERS that would wrap around to 0, 1", "worth 18446744073709551617", 6);
        law("a NUMBER of 394 digits", "worth " + times("9", 394), 6);
        law("a NUMBER of 394 digits", "worth 1" + times("0", 393), 6);
        law("a NUMBER has no sign", "worth -1", 6);
        law("a NUMBER has no sign", "worth 1+-1", 8);

        Run x = run(12, "NUMBER (to 1,000)");
        x.go("letter(1, 1, 1); child(8)").under("bars if 1000 = 999+1 and 0 = 1-1").is("asks(0, 0, 2)", 1);
    }

    private static void timesAndChildren() {
        String times = "TIMES: a NUMBER 1 .. 20";
        orders(times, "pass times 1", -1);
        orders(times, "pass times 20", -1);
        orders(times, "pass times 0", 11);
        orders(times, "pass times 21", 11);
        orders(times, "pass times 1000", 11);
        orders(times, "pass times 4294967297", 11);
        orders(times, "pass times -1", 11);
        orders(times, "pass times [1]", 11);
        String c = "C: a NUMBER 0 .. 5";
        orders(c, "read knows 0 to grown 0", -1);
        orders(c, "read knows 5 to grown 5", -1);
        orders(c, "read knows 6 to 0", 11);
        orders(c, "read grown 6 to 0", 11);
        orders(c, "read knows 4294967296 to 0", 11);
        orders(c, "read grown 4294967301 to 0", 11);
        orders(c, "read knows -1 to 0", 11);
        orders(c, "read knows [1] to 0", 11);
        orders(c, "read knows day to 0", 11);
        law("words as told: knows, grown have no C here", "worth knows 0", 12);
    }

    private static void tapeOf400() {
        String whole = "TEXTS are on a TAPE of at most 400 bytes: the last byte is read";
        both(whole, "bars" + times(" ", 396), "pass" + times(" ", 396), -1);
        both(whole, "bars" + times(" ", 395) + ";", "pass" + times(" ", 395) + ";", 400);
        both(whole, "bars" + times(" ", 395) + ")", "pass" + times(" ", 395) + ")", 399);
        both(whole, times(" ", 396) + "bars", times(" ", 396) + "pass", -1);
        both(whole, times(" ", 396) + "barz", times(" ", 396) + "pasz", 396);
        both(whole, times(" ", 399) + "x", times(" ", 399) + "x", 399);
        both(whole, times("x", 400), times("x", 400), 0);
        both(whole, times("1", 400), times("1", 400), 0);
        law(whole, "worth " + times("[", 394), 14);
        law(whole, "bars if " + times("not ", 98), 400);
        law(whole, "bars if " + times("not ", 97) + " 1=1", -1);
        orders(whole, "pass if " + times("not ", 97) + " 1=1", -1);
        law(whole, times(";", 400), 0);

        Run x = run(12, whole);
        x.go("letter(1, 1, 1); child(8)").under("worth" + times(" ", 393) + "42").is("asks(0, 0, 1)", 42);
        x = run(12, "\"not\" PLAIN: as many as there is room for, odd and even");
        x.go("letter(1, 1, 1); child(8)").under("bars if " + times("not ", 97) + "1=1").is("asks(0, 0, 2)", 0);
        x.under("bars if " + times("not ", 96) + "1=1").is("asks(0, 0, 2)", 1);
        x = run(13, whole);
        x.orders("pass times" + times(" ", 388) + "12", 12).is("count(13)", 12);
    }

    private static void emptyTexts() {
        String alone = "-6 (blanks alone: FAULT at the end)";
        both(alone, "", "", 0);
        both(alone, " ", " ", 1);
        both(alone, times(" ", 20), times(" ", 20), 20);
        both(alone, times(" ", 399), times(" ", 399), 399);
        both(alone, times(" ", 400), times(" ", 400), 400);
    }

    private static void lawRoom() {
        Run x = run(12, "LAWS, 6 at most: -5");
        for (int i = 0; i < 5; i++) {
            x.law("worth " + i, i);
        }
        x.put("bars").accepted("law()", 5).is("count(4)", 6).refusedText("law()", "bars", -5);
        x.all("count(4) = 6; count(10) = 1; count(11) = 0");

        x = run(12, "-5 ahead of reading it; the TAPE is empty then, too");
        for (int i = 0; i < 6; i++) {
            x.law("worth " + i, i);
        }
        x.refusedText("law()", "worth", -5).is("fault()", -1).refusedText("law()", "", -5).is("fault()", -1);
        x.refusedText("law()", "   ", -5).all("fault() = -1; count(10) = 3; count(11) = 0; count(4) = 6");
        x.orders("pas", -6).is("fault()", 0).refusedText("law()", "worth 1 1", -5).is("fault()", 0);

        x = run(12, "a TEXT that can't be takes no room");
        x.law("bars", 0).law("bar", -6).law("", -6).law("bars", 1).is("count(4)", 2);

        x = run(12, "BACK to an IMAGE there is room again, for another LAW");
        x.go("letter(1, 1, 1); child(8)").law("worth 1", 0).go("image(0)");
        for (int i = 1; i < 6; i++) {
            x.law("worth 9", i);
        }
        x.law("worth 2", -5).go("back(0)").law("worth 7", 1).all("count(4) = 2; force(1) = -1; asks(0, 0, 1) = 7; force(2) = -2");
    }

    private static void faultOfTheLatest() {
        Run x = run(14, "FAULT of the latest law(), orders() that read a TEXT: its place; NONE without");
        x.quiet("fault()", -1).law("worth", -6).quiet("fault()", 5).law("worth 1", 0).quiet("fault()", -1).orders("pass;", -6);
        x.quiet("fault()", 5);
        x.orders("pass", 1).is("fault()", -1).law("", -6).is("fault()", 0).orders("pass if 1=2", 0).is("fault()", -1);
        x.law("  ", -6).is("fault()", 2).orders("read 9 to 9", -3).is("fault()", -1).orders(" ", -6).is("fault()", 1);

        x = run(14, "row(), feed(), end(), images leave it");
        x.law("worth  ", -6).go("row(); feed(0, 0, 0, 0, 0); end(0); image(0); back(0); undo(); letter(1, 1, 1)").is("fault()", 7);
        x.go("feed(0, 0, 0, 0, 0); row()").is("fault()", 7);
    }

    /** Whether a TEST is so; if it is BROKEN, it is neither so nor not so. */
    private static void test(String sentence, String test, boolean so, boolean not) {
        Run x = run(12, sentence);
        x.go("letter(1, 1, 1); child(8)").under("bars if " + test).is("asks(0, 0, 2)", so ? 1 : 0);
        x.under("bars if not (" + test + ")").is("asks(0, 0, 2)", not ? 1 : 0);
    }

    private static void so(String sentence, String test) {
        test(sentence, test, true, false);
    }

    private static void notSo(String sentence, String test) {
        test(sentence, test, false, true);
    }

    private static void broken(String sentence, String test) {
        test(sentence, test, false, false);
        Run x = run(13, sentence + ", in ORDERS");
        x.orders("pass if " + test, 0).orders("pass if not (" + test + ")", 0).all("status() = 0; count(13) = 0");
    }

    private static void limits() {
        String beyond = "Beyond 1,000,000,000 either way a SUM, a TEST is BROKEN";
        String top = "1000*1000*1000";
        so(beyond, top + " = " + top);
        so(beyond, top + " > 1000*1000*999");
        so(beyond, "0-" + top + " < 0");
        so(beyond, "0-" + top + "+1 < 1-" + top + "+1");
        so(beyond, top + "-1+1 = " + top);
        broken(beyond, top + "+1 > 0");
        broken(beyond, "1+" + top + " > 0");
        broken(beyond, "0-" + top + "-1 < 0");
        broken(beyond, "0-1-" + top + " < 0");
        broken(beyond, top + "+1-1 = " + top);
        broken(beyond, "0 < " + top + "+1");
        broken(beyond, "[" + top + "+1]*0 = 0");
        broken(beyond, "0*[" + top + "+1] = 0");
        so(beyond, "[" + top + "-1]/3 = 333*1000*1000+333*1000+333");
        so(beyond, "[0-" + top + "]*1 = 0-" + top);
        so(beyond, "[0-" + top + "]*[0-1] = " + top);
        broken(beyond, top + "*2 > 0");
        broken(beyond, top + "*[0-2] < 0");
        broken(beyond, "[" + top + "/500+1]*500 > 0");
        broken(beyond, "[0-1]*[" + top + "/500+1]*500 < 0");
        so(beyond, "[" + top + "/500]*500 = " + top);
    }

    private static void divisions() {
        String zero = "divided by 0";
        broken(zero, "1/0 = 1");
        broken(zero, "1%0 = 1");
        broken(zero, "0/0 = 0");
        broken(zero, "0%0 = 0");
        broken(zero, "1/[1-1] = 0");
        broken(zero, "1 = 1/0");
        broken(zero, "0*[1/0] = 0");
        String cut = "/ cut towards 0, % what is left then";
        so(cut, "7/2 = 3 and 7%2 = 1");
        so(cut, "[0-7]/2 = 0-3 and [0-7]%2 = 0-1");
        so(cut, "7/[0-2] = 0-3 and 7%[0-2] = 1");
        so(cut, "[0-7]/[0-2] = 3 and [0-7]%[0-2] = 0-1");
        so(cut, "1/2 = 0 and [0-1]/2 = 0 and 1%2 = 1 and [0-1]%2 = 0-1");
        so(cut, "8/2 = 4 and 8%2 = 0 and [0-8]%2 = 0 and 0/5 = 0 and 0%5 = 0");
        so(cut, "1000*1000*1000/[0-1] = 0-1000*1000*1000 and 1000*1000*1000%[0-1] = 0");
        so(cut, "[0-1000*1000*1000]/[0-1] = 1000*1000*1000");
        so(cut, "100/10/5 = 2 and 100%30%7 = 3 and 100/3*3 = 99 and 7*5%4 = 3");
    }

    private static void wraps() {
        String wrap = "Beyond 1,000,000,000 is BROKEN, also where 32 bits would come around";
        broken(wrap, "256*256*256*256 = 0");
        broken(wrap, "[256*256]*[256*256] = 0");
        broken(wrap, "[256*256]*[256*256+1] = 256*256");
        broken(wrap, "[1000*1000*1000]*[1000*1000*1000] > 0");
        broken(wrap, "1000*1000*1000*3 < 0");
        broken(wrap, "1000*1000*1000+1000*1000*1000+1000*1000*1000 < 0");
        broken(wrap, "0-1000*1000*1000-1000*1000*1000-1000*1000*1000 > 0");
        broken(wrap, "[0-1000*1000*1000]*[1000*1000*1000] < 0");
        broken(wrap, "[256*256*256]*[256] > 0");
        broken(wrap, "256*256*256*128 < 0");
        so(wrap, "[1000*1000*1000] > [0-1000*1000*1000]");
        notSo(wrap, "[0-1000*1000*1000] > [1000*1000*1000]");
        notSo(wrap, "[1000*1000*1000] < [0-1000*1000*1000]");
    }

    private static void brokenTests() {
        String matter = "\"or\", \"and\" ask what stands behind only if it can still matter";
        so(matter, "1=1 or 1/0=1");
        broken(matter, "1=2 or 1/0=1");
        broken(matter, "1/0=1 or 1=1");
        notSo(matter, "1=2 and 1/0=1");
        broken(matter, "1=1 and 1/0=1");
        broken(matter, "1/0=1 and 1=2");
        so(matter, "1=2 and 1/0=1 or 1=1");
        so(matter, "1=1 or 1/0=1 or 1/0=1");
        so(matter, "1=2 or 1=1 or 1/0=1");
        so(matter, "1=2 or 1=1 or 1=2 and 1/0=1");
        notSo(matter, "1=1 and 1=2 and 1/0=1");
        so(matter, "1=1 and 1=2 and 1/0=1 or 1=1");
        broken(matter, "1=1 and 1=1 and 1/0=1 or 1=1");
        so(matter, "(1=1 or 1/0=1) and (1=1 or 1/0=1)");
        notSo(matter, "(1=1 or 1/0=1) and (1=2 and 1/0=1)");
        so(matter, "1=1 or (1/0=1 and (1/0=1 or 1/0=1))");
        broken(matter, "(1=2 or 1/0=1) or 1=1");
        notSo(matter, "1=2 and (1/0=1 or 1=1) and 1/0=1");
        String turned = "\"not\" PLAIN, within one another";
        so(turned, "not (not (1=1))");
        notSo(turned, "not (not (1=2))");
        notSo(turned, "not (not (not (1=1)))");
        so(turned, "not (not (not (1=2)))");
        so(turned, "not not (not not 1=1)");
        so(turned, "not (1=2) and not (not (1=1) or 1=2)");
        String edges = "< > = at equal SUMS and one beside";
        so(edges, "1 < 2");
        notSo(edges, "2 < 2");
        notSo(edges, "3 < 2");
        so(edges, "2 > 1");
        notSo(edges, "2 > 2");
        notSo(edges, "1 > 2");
        so(edges, "2 = 2");
        notSo(edges, "2 = 1");
        notSo(edges, "1 = 2");
        so(edges, "0-1 < 0");
    }
}
