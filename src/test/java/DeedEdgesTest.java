/** Promises 16 to 21: the LAW in FORCE, reading, answering, losing, days and undoing at their edges. */
public final class DeedEdgesTest {
    private static final Checks CHECKS = new Checks();

    private static Run run(int promise, String sentence) {
        return CHECKS.run(promise, sentence);
    }

    public static void main(String[] args) {
        force();
        readWhom();
        readHowMany();
        readShunned();
        grown();
        answerWhat();
        answerRefused();
        answerOrder();
        lose();
        loseOrder();
        pass();
        fading();
        undo();
        undoRoom();
        undoWhole();
        undoBarred();
        undoOrders();
        CHECKS.carried(16, 21);
        CHECKS.close();
    }

    private static void force() {
        Run x = run(16, "-2 there is no such LAW: none at all");
        x.refused("force(0)", -2).accepted("force(NONE)", -1).refused("force(5)", -2).refused("force(-2)", -2);

        x = run(16, "A LAW is in FORCE: which was");
        for (int i = 0; i < 5; i++) {
            x.law("worth " + (10 + i), i);
        }
        x.refused("force(5)", -2).law("worth 15", 5).accepted("force(5)", -1).accepted("force(0)", 5);
        x.refused("force(6)", -2).refused("force(-2)", -2).refused("force(MIN)", -2).refused("force(MAX)", -2);
        x.all("count(12) = 0; count(8) = 5").accepted("force(0)", 0).accepted("force(NONE)", 0).accepted("force(NONE)", -1);

        x = run(16, "NONE: none, no CLAUSE");
        x.go("letter(1, 1, 1); child(1)").law("worth 42;bars;shuns;fades", 0);
        x.all("asks(0, 0, 1) = 0; asks(0, 0, 2) = 0; asks(0, 0, 3) = 0; of(0, 3) = 0").go("force(0)");
        x.all("asks(0, 0, 1) = 42; asks(0, 0, 2) = 1; asks(0, 0, 3) = 1; of(0, 3) = 1").go("force(-1)");
        x.all("asks(0, 0, 1) = 0; asks(0, 0, 2) = 0; asks(0, 0, 3) = 0; of(0, 3) = 0; count(4) = 1");

        x = run(16, "a new LAW is not in FORCE, one that can't be changes nothing");
        x.law("worth 1", 0).all("count(12) = -1; force(0) = -1").law("worth 2", 1).all("count(12) = 0").law("worth", -6);
        x.all("count(12) = 0");
    }

    private static void readWhom() {
        Run x = run(17, "-2 there is no such LETTER, CHILD");
        x.refused("read(0, 0)", -2).go("letter(1, 1, 1)").refused("read(0, 0)", -2);
        x.go("child(8)").refused("read(1, 0)", -2).refused("read(0, 1)", -2).refused("read(-1, 0)", -2).refused("read(0, -1)", -2);
        x.refused("read(1, 1)", -2).accepted("read(0, 0)", 1);

        x = run(17, "-2 there is no such LETTER, CHILD: far beyond");
        x.go("letter(1, 1, 1); child(8)");
        x.refused("read(MIN, 0)", -2).refused("read(MAX, 0)", -2).refused("read(0, MIN)", -2).refused("read(0, MAX)", -2);
        x.refused("read(MAX, MIN)", -2).refused("read(32, 0)", -2);

        x = run(17, "LETTERS 0 .. 7, CHILDREN 0 .. 5: the last ones");
        x.often(8, "letter(16, 1, 1)").often(6, "child(8)").accepted("read(7, 5)", 1);
        x.all("of(5, 0) = 16; of(4, 0) = 0; read(8, 5) = -2; read(7, 6) = -2; of(5, 2) = 1");
    }

    private static void readHowMany() {
        Run x = run(17, "as long as it KNOWS fewer than it BEARS, the lowest first");
        x.go("letter(255, 0, 0); child(1); child(2); child(7); child(8)");
        x.all("read(0, 0) = 1; of(0, 0) = 1; read(0, 1) = 2; of(1, 0) = 3; read(0, 2) = 7; of(2, 0) = 127; read(0, 3) = 8; of(3, 0) = 255");
        x.all("read(0, 0) = 0; of(0, 0) = 1; read(0, 2) = 0; of(2, 0) = 127; lose(0, 0) = 0; read(0, 0) = 1; of(0, 0) = 1");
        x.all("lose(3, 2) = 6; read(0, 2) = 1; of(2, 0) = 127");

        x = run(17, "that the CHILD KNOWS not yet: a LETTER that is empty, one that is known wholly, one by half");
        x.go("letter(0, 0, 0); letter(192, 0, 0); letter(129, 0, 0); child(8)");
        x.accepted("read(0, 0)", 0).accepted("read(1, 0)", 2).accepted("read(1, 0)", 0).accepted("read(2, 0)", 1);
        x.all("of(0, 0) = 193; of(0, 2) = 4");

        x = run(17, "what it KNOWS already takes no room twice");
        x.go("letter(1, 0, 0); letter(7, 0, 0); child(2); read(0, 0)").all("read(1, 0) = 1; of(0, 0) = 3");
    }

    private static void readShunned() {
        Run x = run(17, "does not SHUN (asked with knows as it is then)");
        x.go("letter(255, 0, 0); child(8)").under("shuns if knows = 1 and trait < 7").all("read(0, 0) = 2; of(0, 0) = 129");

        x = run(17, "what is shunned takes no room");
        x.go("letter(255, 0, 0); child(2)").under("shuns if trait < 6").all("read(0, 0) = 2; of(0, 0) = 192");

        x = run(17, "a CHILD that SHUNS all");
        x.go("letter(255, 255, 1); child(8)").under("shuns").all("read(0, 0) = 0; of(0, 0) = 0; of(0, 2) = 1");

        x = run(17, "served as it is then");
        x.go("letter(255, 3, 0); child(8)").under("shuns if served = 2").all("read(0, 0) = 2; of(0, 0) = 3");

        x = run(17, "\"shuns\" is asked of the LETTER that is READ, on the DAY that it is");
        x.go("letter(7, 0, 3); letter(7, 0, 4); child(8); child(8)").under("shuns if letter = 1 and house = 4 and trait = 0 and day = 999");
        x.all("read(1, 0) = 3; read(0, 1) = 3").go("lose(0, 0); terms(0, 999)").all("read(1, 0) = 0; read(0, 0) = 1; of(0, 0) = 7");

        x = run(17, "a \"shuns\" that is BROKEN does not HOLD");
        x.go("letter(7, 0, 0); child(8)").under("shuns if 1/knows = 1").all("read(0, 0) = 1; of(0, 0) = 1");
    }

    private static void grown() {
        Run x = run(17, "GROWN is one more (99 at most)");
        x.go("letter(0, 0, 0); child(8); child(8)").often(98, "read(0, 0)").is("of(0, 2)", 98).accepted("read(0, 0)", 0).is("of(0, 2)", 99);
        x.accepted("read(0, 0)", 0).all("of(0, 2) = 99; of(1, 2) = 0");

        x = run(17, "GROWN is one more behind that");
        x.go("letter(1, 0, 0); child(8)").under("shuns if grown = 0").all("read(0, 0) = 0; of(0, 2) = 1; read(0, 0) = 1; of(0, 2) = 2");

        x = run(17, "one that is REFUSED lets nobody grow");
        x.go("letter(1, 0, 0); child(8); read(1, 0)").all("of(0, 2) = 0; of(0, 0) = 0");
    }

    private static void answerWhat() {
        Run x = run(18, "To ANSWER one that has a HOUSE 1 .. 9: what it is WORTH");
        x.go("letter(0, 0, 1); letter(255, 255, 9); letter(0, 0, 0); child(8)").accepted("answer(0, 0)", 0);
        x.go("read(1, 0)").accepted("answer(1, 0)", 8).refused("answer(2, 0)", -3).all("count(1) = 1; at(0, 3) = 1; at(1, 3) = 1");
        x.all("at(2, 3) = 0");

        x = run(18, "what it is WORTH 0 .. 99");
        x.go("letter(0, 0, 1); letter(0, 0, 1); letter(0, 0, 1); child(8)").under("worth [letter-1]*100+letter");
        x.all("answer(0, 0) = 0; answer(1, 0) = 1; answer(2, 0) = 99");

        x = run(18, "the last LETTER by the last CHILD; none are left");
        x.often(8, "letter(1, 1, 1)").often(6, "child(1)").accepted("answer(7, 5)", 0).is("count(1)", 7);
        for (int i = 0; i < 7; i++) {
            x.is("answer(" + i + ", 5)", 0);
        }
        x.all("count(1) = 0; count(0) = 8; at(7, 3) = 1; at(0, 3) = 1; of(5, 2) = 0; of(5, 0) = 0");
    }

    private static void answerRefused() {
        Run x = run(18, "-2 there is no such LETTER, CHILD");
        x.refused("answer(0, 0)", -2).go("letter(1, 1, 1)").refused("answer(0, 0)", -2).go("child(1)");
        x.refused("answer(1, 0)", -2).refused("answer(0, 1)", -2).refused("answer(-1, 0)", -2).refused("answer(0, -1)", -2);

        x = run(18, "-2 there is no such LETTER, CHILD: far beyond");
        x.go("letter(1, 1, 1); child(1)");
        x.refused("answer(MIN, 0)", -2).refused("answer(MAX, 0)", -2).refused("answer(0, MIN)", -2).refused("answer(0, MAX)", -2);
        x.refused("answer(32, 0)", -2).accepted("answer(0, 0)", 0);

        x = run(18, "-3: it has no HOUSE");
        x.go("letter(1, 1, 0); child(1)").refused("answer(0, 0)", -3);
        x = run(18, "-3: it is ANSWERED");
        x.go("letter(1, 1, 1); child(1); child(1); answer(0, 0)").refused("answer(0, 0)", -3).refused("answer(0, 1)", -3);
        x.go("undo()").accepted("answer(0, 1)", 0);
        x = run(18, "-3: the CHILD is BARRED");
        x.go("letter(1, 1, 1); child(1); child(1)").under("bars if child = 0").refused("answer(0, 0)", -3).accepted("answer(0, 1)", 0);
        x = run(18, "not BARRED by what is BROKEN");
        x.go("letter(1, 1, 1); child(1)").under("bars if 1/0 = 1;bars if 1000*1000*1000*2 > 0").accepted("answer(0, 0)", 0);
        x = run(18, "\"bars\" is asked of a CHILD and a LETTER (trait -1)");
        x.go("letter(1, 1, 1); child(1)").under("bars if trait = 0-1").refused("answer(0, 0)", -3);
        x.under("bars if trait > 0-1 or trait < 0-1").accepted("answer(0, 0)", 0);
        x = run(18, "BARRED from this LETTER, on this DAY");
        x.go("letter(1, 1, 1); letter(1, 1, 1); child(1)").under("bars if letter = 1 and day = 999").go("terms(0, 999)");
        x.refused("answer(1, 0)", -3).accepted("answer(0, 0)", 0).go("terms(0, 998)").accepted("answer(1, 0)", 0);
        x = run(18, "BARRED is asked as it is: not any more behind a reading");
        x.go("letter(1, 1, 1); child(1)").under("bars if served < 1").refused("answer(0, 0)", -3).go("read(0, 0)");
        x.accepted("answer(0, 0)", 1);
    }

    private static void answerOrder() {
        Run x = run(18, "-2 and -3: the first of these in that order");
        x.go("letter(1, 1, 0); letter(1, 1, 1); letter(1, 1, 1); child(1); answer(1, 0)").under("bars");
        x.refused("answer(0, 1)", -2).refused("answer(1, 1)", -2).refused("answer(2, 1)", -2).refused("answer(0, -1)", -2);
        x.refused("answer(3, 0)", -2).all("count(8) = 5; count(9) = 0");
        x.refused("answer(0, 0)", -3).refused("answer(1, 0)", -3).refused("answer(2, 0)", -3);
    }

    private static void lose() {
        Run x = run(19, "TRAITS 0 .. 7: how many are KNOWN yet");
        x.go("letter(255, 0, 0); letter(128, 0, 0); child(8); child(8); read(0, 0); read(1, 1)");
        x.accepted("lose(0, 0)", 7).accepted("lose(7, 0)", 6).all("of(0, 0) = 126").accepted("lose(7, 1)", 0);
        x.all("of(1, 0) = 0; of(1, 2) = 1; of(0, 0) = 126");

        x = run(19, "-1 a number that can't be: a TRAIT one beyond, far beyond");
        x.go("letter(255, 0, 0); child(8); read(0, 0)");
        x.refused("lose(-1, 0)", -1).refused("lose(8, 0)", -1).refused("lose(32, 0)", -1).refused("lose(MIN, 0)", -1);
        x.refused("lose(MAX, 0)", -1);

        x = run(19, "-2 there is no such CHILD");
        x.refused("lose(0, 0)", -2).go("letter(255, 0, 0); child(8); read(0, 0)");
        x.refused("lose(0, 1)", -2).refused("lose(7, -1)", -2).refused("lose(0, MIN)", -2).refused("lose(0, MAX)", -2);

        x = run(19, "-3 it KNOWS it not");
        x.go("letter(129, 0, 0); child(8); child(8)").refused("lose(0, 0)", -3).go("read(0, 0)");
        x.refused("lose(1, 0)", -3).refused("lose(6, 0)", -3).refused("lose(0, 1)", -3).accepted("lose(0, 0)", 1).refused("lose(0, 0)", -3);
    }

    private static void loseOrder() {
        Run x = run(19, "-1, -2 and -3: the first of these in that order");
        x.go("letter(1, 0, 0); child(8)");
        x.refused("lose(8, 1)", -1).refused("lose(-1, -1)", -1).refused("lose(8, 0)", -1).all("count(7) = 3; count(8) = 0; count(9) = 0");
        x.refused("lose(5, 1)", -2).all("count(8) = 1; count(9) = 0").refused("lose(5, 0)", -3).all("count(9) = 1");
    }

    private static void pass() {
        Run x = run(20, "it is the next DAY: its number (at 999 it can't be)");
        x.accepted("pass()", 1).accepted("pass()", 2).go("terms(0, 997)").accepted("pass()", 998).accepted("pass()", 999);
        x.refused("pass()", -3).refused("pass()", -3).all("count(13) = 999; count(9) = 2; undo() = 3; count(13) = 998");
        x.accepted("pass()", 999);

        x = run(20, "a DAY that can't be lets nothing fade");
        x.go("letter(255, 0, 0); child(8); read(0, 0); terms(0, 999)").under("fades").refused("pass()", -3).is("of(0, 0)", 255);
        x.go("terms(0, 998)").accepted("pass()", 999).is("of(0, 0)", 0);
    }

    private static void fading() {
        Run x = run(20, "all that FADES is KNOWN no more: all eight, none, of all six");
        x.go("letter(255, 0, 0)").often(6, "child(8)").go("read(0, 0); read(0, 5)").under("fades if child = 5");
        x.all("pass() = 1; of(0, 0) = 255; of(5, 0) = 0; of(5, 2) = 1");

        x = run(20, "\"fades\" is asked of a CHILD and a TRAIT (letter, house, served -1)");
        x.go("letter(255, 255, 0); child(8); read(0, 0)").under("fades if letter > 0-1 or house > 0-1 or served > 0-1");
        x.all("pass() = 1; of(0, 0) = 255");
        x.under("fades if letter = 0-1 and house = 0-1 and served = 0-1 and trait = 3").all("pass() = 2; of(0, 0) = 247");

        x = run(20, "the lowest and the highest TRAIT");
        x.go("letter(255, 0, 0); child(8); read(0, 0)").under("fades if trait = 0 or trait = 7").all("pass() = 1; of(0, 0) = 126");

        x = run(20, "all asked as it was ahead: knows, day");
        x.go("letter(255, 0, 0); child(8); child(8); read(0, 0)").under("fades if knows = 8 and day = 0").all("pass() = 1; of(0, 0) = 0");
        x.go("read(0, 0)").all("pass() = 2; of(0, 0) = 255").go("terms(0, 998)").under("fades if day = 998 and trait = 3");
        x.all("pass() = 999; of(0, 0) = 247");
    }

    private static void undo() {
        Run x = run(21, "-3 there is none");
        x.refused("undo()", -3).go("letter(1, 1, 1); child(8)").refused("undo()", -3);
        x.go("read(0, 0)").accepted("undo()", 0).refused("undo()", -3);

        x = run(21, "read(), answer(), lose(), pass() is undone: 0 .. 3");
        x.go("letter(3, 1, 1); child(8); read(0, 0); answer(0, 0); lose(0, 0); pass()").is("count(5)", 4);
        x.accepted("undo()", 3).all("count(13) = 0; count(5) = 3").accepted("undo()", 2).all("of(0, 0) = 3; count(5) = 2");
        x.accepted("undo()", 1).all("at(0, 3) = 0; count(1) = 1; count(5) = 1").accepted("undo()", 0);
        x.all("of(0, 0) = 0; of(0, 2) = 0; count(5) = 0");

        x = run(21, "what is REFUSED is nothing that can be undone");
        x.go("letter(1, 1, 0); child(8); read(1, 0); answer(0, 0); lose(0, 0); terms(0, 999); pass()").is("count(5)", 0);
        x.refused("undo()", -3);
    }

    private static void undoRoom() {
        Run x = run(21, "16 are kept");
        x.often(15, "pass()").is("count(5)", 15).go("pass()").is("count(5)", 16).go("pass()").is("count(5)", 16);
        for (int i = 16; i > 0; i--) {
            x.is("undo()", 3).is("count(13)", i);
        }
        x.is("count(5)", 0).refused("undo()", -3).is("count(13)", 1);

        x = run(21, "16 are kept: just as many");
        x.often(16, "pass()").often(15, "undo()").all("count(5) = 1; undo() = 3; count(13) = 0; undo() = -3");

        x = run(21, "16 are kept: the oldest goes, the others stay in their row");
        x.go("letter(255, 0, 1); child(8); read(0, 0); answer(0, 0)").often(14, "pass()").is("count(5)", 16).go("lose(0, 0)");
        x.is("count(5)", 16);
        x.is("undo()", 2).often(14, "undo()").all("count(5) = 1; undo() = 1; undo() = -3; of(0, 0) = 255; of(0, 2) = 1; at(0, 3) = 0");
        x.all("count(13) = 0");
    }

    private static void undoWhole() {
        Run x = run(21, "a reading by which nothing came; GROWN at 99");
        x.go("letter(1, 0, 0); child(8)").often(98, "read(0, 0)").go("read(0, 0); read(0, 0)");
        x.all("undo() = 0; of(0, 2) = 99; undo() = 0; of(0, 2) = 98; undo() = 0; of(0, 2) = 97; of(0, 0) = 1");

        x = run(21, "all that faded in a DAY, of all CHILDREN, comes again; the last DAY too");
        x.go("letter(255, 0, 0)").often(6, "child(8)").go("terms(0, 998); read(0, 0); read(0, 5)").under("fades");
        x.all("pass() = 999; of(0, 0) = 0; of(5, 0) = 0; undo() = 3; count(13) = 998; of(0, 0) = 255; of(5, 0) = 255; of(5, 2) = 1");
        x.all("of(3, 0) = 0");

        x = run(21, "undone as it was, whatever LAW is in FORCE then");
        x.go("letter(255, 0, 0); child(8); read(0, 0)").under("fades if trait > 3").go("pass(); force(-1)");
        x.all("undo() = 3; of(0, 0) = 255; count(12) = -1");
        x.under("shuns").all("undo() = 0; of(0, 0) = 0; count(12) = 1; count(4) = 2");
    }

    /** What comes in between, and how many can be undone behind it. */
    private static void between(String calls, int left) {
        Run x = run(21, "nothing that was ahead of a letter(), child(), terms(), row() that was not REFUSED can be undone: " + calls);
        x.go("letter(1, 1, 1); child(8); read(0, 0); pass()").is("count(5)", 2).go(calls).is("count(5)", left);
        if (left == 0) {
            x.refused("undo()", -3).all("of(0, 0) = 1").go("read(0, 0)").all("count(5) = 1; undo() = 0; undo() = -3");
        } else {
            x.all("undo() = 3; undo() = 0; undo() = -3; of(0, 0) = 0");
        }
    }

    private static void undoBarred() {
        between("letter(0, 0, 0)", 0);
        between("child(1)", 0);
        between("terms(0, 1)", 0);
        between("terms(2, 0)", 0);
        between("feed(0, 0, 0, 0, 0); end(3); row()", 0);
        between("feed(0, 0, 0, 0, 0); end(1); row()", 0);
        between("back(0); image(0); back(0)", 0);
        between("letter(256, 0, 0); letter(0, -1, 0); letter(0, 0, 10)", 2);
        between("child(0); child(9)", 2);
        between("terms(0, 1000); terms(3, 0)", 2);
        between("row()", 2);
        between("back(0); back(2); image(0); image(2)", 2);
        between("law(); orders(); force(0); force(-1)", 2);
        between("read(9, 9); answer(9, 9); lose(9, 9); schools(-1, 1)", 2);
        between("told(0, 1); forget(); schools(1, 60); feed(1, 1, 1, 1, 1); end(0)", 2);
        between("lesson(0, 0, 0); heard(0, 0); ask(0, 0); matched(0); later(0, 60); few(1, 1); compare(-1)", 2);

        Run x = run(21, "a letter(), a child() for which there is no room leaves what can be undone");
        x.often(8, "letter(1, 1, 1)").often(6, "child(8)").go("read(0, 0); letter(1, 1, 1); child(1)");
        x.all("count(10) = 2; count(5) = 1; undo() = 0");
        x.go("read(0, 0); feed(0, 0, 0, 0, 0); end(3)").all("row() = 0; blots() = 1; count(5) = 0; undo() = -3");
    }

    private static void undoOrders() {
        Run x = run(21, "by ORDERS, too");
        x.go("letter(3, 0, 1); child(8)").orders("read 0 to 0;answer 0 by 0;lose 0 of 0;pass", 4);
        x.all("count(5) = 4; undo() = 3; undo() = 2; undo() = 1; undo() = 0; undo() = -3; of(0, 0) = 0; at(0, 3) = 0; count(13) = 0");

        x = run(21, "by ORDERS, too: 16 are kept of more");
        x.orders("pass times 20", 20).is("count(5)", 16).often(16, "undo()").all("count(13) = 4; undo() = -3");

        x = run(21, "ORDERS that can't be leave what can be undone as it was");
        x.go("letter(3, 0, 1); child(8); read(0, 0); pass()").orders("pass times 20;lose 7 of 0", -3);
        x.all("count(5) = 2; undo() = 3; count(13) = 0; undo() = 0; of(0, 0) = 0; undo() = -3");

        x = run(21, "ORDERS of which none is run leave what can be undone as it was");
        x.go("pass()").orders("pass if 1 = 2", 0).all("count(5) = 1; undo() = 3");
    }
}
