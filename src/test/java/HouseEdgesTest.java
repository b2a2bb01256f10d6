/** Promises 1 to 7: a new object, LETTERS, CHILDREN and TERMS at the edges that the document names. */
public final class HouseEdgesTest {
    private static final Checks CHECKS = new Checks();

    private static Run run(int promise, String sentence) {
        return CHECKS.run(promise, sentence);
    }

    public static void main(String[] args) {
        newObject();
        letterNumbers();
        letterRoom();
        at();
        childNumbers();
        childRoom();
        of();
        fades();
        asks();
        worth();
        lawWords();
        shuns();
        terms();
        CHECKS.carried(1, 7);
        CHECKS.close();
    }

    private static void newObject() {
        Run x = run(1, "A house without letters");
        x.all("count(0) = 0; count(1) = 0; count(2) = 0; count(3) = 0; count(4) = 0; count(5) = 0; count(6) = 0");
        x.all("count(7) = 0; count(8) = 0; count(9) = 0; count(10) = 0; count(11) = 0");
        x.all("status() = 0; fault() = -1; stopped() = -1; blots() = 0");
        x.all("at(0, 0) = -1; at(0, 3) = -1; of(0, 0) = -1; of(0, 3) = -1; asks(0, 0, 0) = -1; asks(0, 0, 3) = -1");
        x.all("lesson(0, 0, -1) = -1; heard(0, -1) = -1; ask(0, 0) = -1; together(0, 0) = -1; later(0, 0) = -1");
        x.all("likest(0, 0) = -1; drawn(0, 0) = -1; drawn(0, 1) = -1; compare(0) = -1; compare(-1) = 0");
        x.all("matched(0) = 0; matched(1) = -1; clashes(1) = 0; clashes(9) = 0; lost() = 0; forget() = 0; end(0) = 0; end(1) = -1");

        x = run(1, "DAY (0 at first), FOUND (2), MOOD (0), a LAW in FORCE (NONE at first)");
        x.all("count(13) = 0; count(14) = 2; count(15) = 0; count(12) = -1");
        x.all("few(1, 1) = 800000000000; terms(0, 0) = 0; terms(1, 2) = 2; terms(2, 0) = 0; force(-1) = -1");

        x = run(1, "each object is a house of its own");
        x.go("letter(1, 1, 1); child(1); pass(); told(0, 1); image(0); terms(1, 5); letter(-1, 0, 0)").under("worth 1");
        Run y = new Run(CHECKS);
        y.all("count(0) = 0; count(2) = 0; count(3) = 0; count(4) = 0; count(5) = 0; count(7) = 0; count(12) = -1; count(13) = 0");
        y.all("count(14) = 2");
        y.all("back(0) = -2; letter(2, 2, 2) = 0").go("child(1)");
        x.all("at(0, 0) = 1; count(0) = 1; count(8) = 0");
    }

    private static void letterNumbers() {
        Run x = run(2, "CONTENT, NEED (sets), a HOUSE 0 .. 9: the lowest and the highest");
        x.accepted("letter(0, 0, 0)", 0).accepted("letter(255, 0, 0)", 1).accepted("letter(0, 255, 0)", 2).accepted("letter(0, 0, 9)", 3);
        x.accepted("letter(255, 255, 9)", 4);
        x.all("at(0, 0) = 0; at(0, 1) = 0; at(0, 2) = 0; at(1, 0) = 255; at(1, 1) = 0; at(2, 0) = 0; at(2, 1) = 255; at(3, 2) = 9");
        x.all("at(4, 0) = 255; at(4, 1) = 255; at(4, 2) = 9");

        x = run(2, "-1 a number that can't be: one beyond the lowest and the highest");
        x.go("letter(5, 6, 7)");
        x.refused("letter(-1, 0, 0)", -1).refused("letter(256, 0, 0)", -1);
        x.refused("letter(0, -1, 0)", -1).refused("letter(0, 256, 0)", -1);
        x.refused("letter(0, 0, -1)", -1).refused("letter(0, 0, 10)", -1);
        x.is("count(7)", 6).accepted("letter(1, 1, 1)", 1);

        x = run(2, "-1 a number that can't be: those that fall back on one that can, if they are cut");
        x.refused("letter(257, 1, 1)", -1).refused("letter(1, -255, 1)", -1).refused("letter(1, 1, 257)", -1);
        x.refused("letter(MIN, 1, 1)", -1).refused("letter(1, MIN, 1)", -1).refused("letter(1, 1, MIN)", -1);
        x.refused("letter(MAX, 1, 1)", -1).refused("letter(1, MAX, 1)", -1).refused("letter(1, 1, MAX)", -1);
        x.is("count(0)", 0);
    }

    private static void letterRoom() {
        Run x = run(2, "LETTERS 0 .. 7 (8 at most), -5 no room");
        x.often(7, "letter(1, 1, 1)").accepted("letter(2, 2, 2)", 7);
        x.refused("letter(1, 1, 1)", -5).refused("letter(0, 0, 0)", -5);
        x.all("count(0) = 8; count(1) = 8; count(10) = 2; at(7, 0) = 2");

        x = run(2, "-1 and -5: the first of these in that order");
        x.often(8, "letter(1, 1, 1)");
        x.refused("letter(256, 0, 0)", -1).refused("letter(0, -1, 0)", -1).refused("letter(0, 0, 10)", -1);
        x.all("count(7) = 3; count(10) = 0");

        x = run(2, "BACK to an IMAGE there is room again");
        x.often(7, "letter(1, 1, 1)").go("image(0); letter(9, 9, 9)").refused("letter(1, 1, 1)", -5);
        x.go("back(0)").accepted("letter(3, 3, 3)", 7).all("at(7, 0) = 3; letter(1, 1, 1) = -5");
    }

    private static void at() {
        Run x = run(3, "what 0 .. 3 of LETTERS 0 .. 7; NONE");
        for (int i = 0; i < 8; i++) {
            x.is("letter(" + (i + 10) + ", " + (i + 20) + ", " + i + ")", i);
        }
        x.all("at(0, 0) = 10; at(0, 1) = 20; at(0, 2) = 0; at(0, 3) = 0; at(7, 0) = 17; at(7, 1) = 27; at(7, 2) = 7; at(7, 3) = 0");
        x.quiet("at(0, -1)", -1).quiet("at(0, 4)", -1).quiet("at(-1, 0)", -1).quiet("at(8, 0)", -1);
        x.all("at(7, -1) = -1; at(7, 4) = -1; at(MIN, 0) = -1; at(MAX, 0) = -1; at(0, MIN) = -1; at(0, MAX) = -1; at(8, 4) = -1");

        x = run(3, "NONE of a LETTER that is not there yet");
        x.all("at(0, 0) = -1; letter(1, 1, 1) = 0; at(0, 0) = 1; at(1, 0) = -1; letter(1, 1, 1) = 1; at(1, 0) = 1; at(2, 0) = -1");

        x = run(3, "ANSWERED or not (at first)");
        x.often(8, "letter(1, 1, 1)").go("child(1); answer(7, 0)");
        x.all("at(7, 3) = 1; at(6, 3) = 0; at(0, 3) = 0").go("answer(0, 0)").all("at(0, 3) = 1; at(1, 3) = 0; undo() = 1; at(0, 3) = 0");

        x = run(3, "not ANSWERED at first, where an ANSWERED one was ahead of back()");
        x.go("image(0); letter(1, 1, 1); child(1); answer(0, 0); back(0); letter(2, 2, 2)").all("at(0, 3) = 0; count(1) = 1");
    }

    private static void childNumbers() {
        Run x = run(4, "BEARS 1 .. 8: the lowest and the highest; KNOWS none, GROWN 0 at first");
        x.accepted("child(1)", 0).accepted("child(8)", 1);
        x.all("of(0, 0) = 0; of(0, 1) = 1; of(0, 2) = 0; of(1, 0) = 0; of(1, 1) = 8; of(1, 2) = 0");

        x = run(4, "-1 a number that can't be: one beyond the lowest and the highest");
        x.refused("child(0)", -1).refused("child(9)", -1).refused("child(-1)", -1);
        x.refused("child(MIN)", -1).refused("child(MAX)", -1).refused("child(257)", -1);
        x.all("count(2) = 0; count(7) = 6");

        x = run(4, "KNOWS none, GROWN 0 at first, where one that was READ to was ahead of back()");
        x.go("letter(7, 0, 0); image(0); child(8); read(0, 0); back(0); child(2)");
        x.all("of(0, 0) = 0; of(0, 1) = 2; of(0, 2) = 0");
    }

    private static void childRoom() {
        Run x = run(4, "CHILDREN 0 .. 5 (6 at most), -5 no room");
        x.often(5, "child(1)").accepted("child(8)", 5);
        x.refused("child(1)", -5).refused("child(8)", -5);
        x.all("count(2) = 6; count(10) = 2; of(5, 1) = 8");

        x = run(4, "-1 and -5: the first of these in that order");
        x.often(6, "child(1)").refused("child(0)", -1).refused("child(9)", -1);
        x.all("count(7) = 2; count(10) = 0");
    }

    private static void of() {
        Run x = run(5, "CHILDREN 0 .. 5, what 0 .. 10; NONE");
        x.all("of(0, 0) = -1; child(3) = 0; of(0, 0) = 0; of(1, 0) = -1").often(4, "child(4)");
        x.all("of(5, 1) = -1; child(5) = 5; of(5, 1) = 5");
        x.quiet("of(6, 0)", -1).quiet("of(-1, 0)", -1).quiet("of(0, -1)", -1).quiet("of(0, 11)", -1);
        x.all("of(0, 2) = 0; of(0, 3) = 0; of(0, 10) = 0; of(5, 10) = 0; of(5, 11) = -1; of(6, 11) = -1");
        x.all("of(MIN, 0) = -1; of(MAX, 0) = -1; of(0, MIN) = -1; of(0, MAX) = -1");

        x = run(5, "KNOWS (a set): none and all; GROWN 0 .. 99");
        x.go("letter(255, 0, 0); child(8); read(0, 0)").all("of(0, 0) = 255; of(0, 2) = 1");
        x.often(97, "read(0, 0)").all("of(0, 2) = 98; read(0, 0) = 0; of(0, 2) = 99; read(0, 0) = 0; of(0, 2) = 99; of(0, 0) = 255");
    }

    private static void fades() {
        Run x = run(5, "whether TRAIT t FADES (3 + t): the lowest and the highest TRAIT, KNOWN or not");
        x.under("fades if trait = 0;fades if trait = 7").go("child(8)");
        x.all("of(0, 2) = 0; of(0, 3) = 1; of(0, 4) = 0; of(0, 9) = 0; of(0, 10) = 1; of(0, 11) = -1");
        x.go("force(-1)").all("of(0, 3) = 0; of(0, 10) = 0");

        x = run(5, "fades is asked with letter, house, served -1");
        x.go("child(1); letter(1, 1, 5)");
        x.under("fades if letter = 0-1 and house = 0-1 and served = 0-1").is("of(0, 3)", 1);
        x.under("fades if letter > 0-1 or house > 0-1 or served > 0-1").is("of(0, 3)", 0);
        x.under("fades if letter < 0-1 or house < 0-1 or served < 0-1").is("of(0, 3)", 0);

        x = run(5, "fades is asked with the DAY, the MOOD and what is KNOWN as they are");
        x.go("letter(255, 0, 0); child(8); child(3); read(0, 1)").under("fades if day = 999 and mood = 9 and child = 1 and knows = 3");
        x.go("terms(2, 9)").is("of(1, 3)", 0).go("terms(0, 999)").all("of(1, 3) = 1; of(0, 3) = 0; lose(0, 1) = 2; of(1, 3) = 0");

        x = run(5, "a CLAUSE HOLDS, if its \"if\" is so and not BROKEN");
        x.go("child(1)").under("fades").is("of(0, 3)", 1).under("fades if 1 = 2").is("of(0, 3)", 0);
        x.under("fades if 1/0 = 1").is("of(0, 3)", 0).under("fades if 1%0 = 1;fades").is("of(0, 3)", 1);
        x.under("shuns;bars;worth 9").is("of(0, 3)", 0);
    }

    private static void asks() {
        Run x = run(6, "CHILDREN, LETTERS, what 0 .. 10; NONE");
        x.all("asks(0, 0, 0) = -1").go("letter(1, 1, 1)").all("asks(0, 0, 0) = -1").go("child(1)").all("asks(0, 0, 0) = 0");
        x.quiet("asks(1, 0, 0)", -1).quiet("asks(0, 1, 0)", -1).quiet("asks(-1, 0, 0)", -1).quiet("asks(0, -1, 0)", -1);
        x.quiet("asks(0, 0, -1)", -1).quiet("asks(0, 0, 11)", -1);
        x.all("asks(0, 0, 10) = 0; asks(MIN, 0, 0) = -1; asks(MAX, 0, 0) = -1; asks(0, MIN, 0) = -1; asks(0, MAX, 0) = -1");
        x.all("asks(0, 0, MIN) = -1; asks(0, 0, MAX) = -1; asks(1, 1, 11) = -1");
        x.often(7, "letter(1, 1, 1)").often(5, "child(1)").all("asks(5, 7, 0) = 0; asks(5, 8, 0) = -1; asks(6, 7, 0) = -1");

        x = run(6, "how many TRAITS are served: none and all eight; WORTH as many without a law");
        x.go("letter(255, 255, 1); letter(0, 0, 1); child(8)").all("asks(0, 0, 0) = 0; asks(0, 0, 1) = 0; asks(0, 0, 2) = 0");
        x.go("read(0, 0)").all("asks(0, 0, 0) = 8; asks(0, 0, 1) = 8; asks(0, 1, 0) = 0; asks(0, 1, 1) = 0");

        x = run(6, "whether BARRED (1, 0)");
        x.go("letter(1, 1, 0); child(1)").under("bars").is("asks(0, 0, 2)", 1).under("bars if 1 = 2").is("asks(0, 0, 2)", 0);
        x.under("bars if trait = 0-1").is("asks(0, 0, 2)", 1).under("bars if trait > 0-1 or trait < 0-1").is("asks(0, 0, 2)", 0);
        x.under("shuns;fades").is("asks(0, 0, 2)", 0).under("bars if 1/0=1 or 1=1").is("asks(0, 0, 2)", 0);

        x = run(6, "\"bars\" is asked of a CHILD and a LETTER");
        x.go("letter(1, 0, 3); letter(2, 3, 4); child(8); child(8); read(0, 0)");
        x.under("bars if letter = 1 and child = 0 and house = 4 and served = 1").all("asks(0, 1, 2) = 1; asks(0, 0, 2) = 0");
        x.all("asks(1, 1, 2) = 0");
        x.under("bars if day = 999").is("asks(0, 1, 2)", 0).go("terms(0, 999)").is("asks(0, 1, 2)", 1);
        x.under("bars if mood = 9").is("asks(0, 1, 2)", 0).go("terms(2, 9)").is("asks(0, 1, 2)", 1);

        x = run(6, "BARRED in either of two \"bars\"");
        x.go("letter(1, 1, 1); child(1); child(1); child(1)").under("bars if child = 0;worth 1;bars if child = 2");
        x.all("asks(0, 0, 2) = 1; asks(1, 0, 2) = 0; asks(2, 0, 2) = 1");
    }

    /** Of a CHILD that serves three TRAITS. */
    private static void worthOf(String sum, int want) {
        Run x = run(6, "WORTH what the last \"worth\" that HOLDS tells, 0 .. 99 (else the nearest), without as many as are served");
        x.go("letter(7, 7, 1); child(8); read(0, 0)").under("worth " + sum).is("asks(0, 0, 1)", want);
    }

    private static void worth() {
        worthOf("0", 0);
        worthOf("0-1", 0);
        worthOf("0-1000*1000*1000", 0);
        worthOf("1", 1);
        worthOf("98", 98);
        worthOf("99", 99);
        worthOf("100", 99);
        worthOf("1000*1000*1000", 99);
        worthOf("1000*1000*1000+1", 3);
        worthOf("0-1000*1000*1000-1", 3);
        worthOf("5/0", 3);
        worthOf("5%0", 3);
        worthOf("5 if 1=2", 3);
        worthOf("5 if 1/0=1", 3);
        worthOf("5;worth 6", 6);
        worthOf("5;worth 6 if 1=2", 5);
        worthOf("5;worth 6/0;worth 7 if 1/0=1", 5);
        worthOf("5;worth 0-1", 0);
        worthOf("0;bars", 0);
        worthOf("trait+50", 49);
    }

    private static void wordIs(String word, String setUp, int want) {
        Run x = run(6, "Words of LAWS at the ends of what they may be");
        x.go(setUp).under("worth " + word).is("asks(0, 0, 1)", want);
    }

    private static void lawWords() {
        wordIs("knows+10", "letter(255, 0, 0); child(8)", 10);
        wordIs("knows+10", "letter(255, 0, 0); child(8); read(0, 0)", 18);
        wordIs("served+10", "letter(255, 255, 0); child(8); read(0, 0)", 18);
        wordIs("served+10", "letter(255, 0, 0); child(8); read(0, 0)", 10);
        wordIs("bears", "letter(0, 0, 0); child(1)", 1);
        wordIs("bears", "letter(0, 0, 0); child(8)", 8);
        wordIs("grown+10", "letter(0, 0, 0); child(8)", 10);
        wordIs("house+10", "letter(0, 0, 0); child(8)", 10);
        wordIs("house+10", "letter(0, 0, 9); child(8)", 19);
        wordIs("day", "letter(0, 0, 0); child(8); terms(0, 0)", 0);
        wordIs("day/11", "letter(0, 0, 0); child(8); terms(0, 999)", 90);
        wordIs("mood+1", "letter(0, 0, 0); child(8); terms(2, 0)", 1);
        wordIs("mood+1", "letter(0, 0, 0); child(8); terms(2, 9)", 10);
        wordIs("child*10+letter", "letter(0, 0, 0); child(8)", 0);

        Run x = run(6, "Words of LAWS at the ends of what they may be");
        x.often(8, "letter(0, 0, 0)").often(6, "child(8)").under("worth child*10+letter").all("asks(5, 7, 1) = 57; asks(5, 0, 1) = 50");
        x.all("asks(0, 7, 1) = 7");
        x.often(100, "read(0, 0)").under("worth grown").all("asks(0, 0, 1) = 99; asks(1, 0, 1) = 0");
    }

    private static void shuns() {
        Run x = run(6, "whether TRAIT t is SHUNNED (3 + t): the lowest and the highest TRAIT, in the CONTENT or not");
        x.go("letter(128, 0, 0); child(8)").under("shuns if trait = 0;shuns if trait = 7");
        x.all("asks(0, 0, 2) = 0; asks(0, 0, 3) = 1; asks(0, 0, 4) = 0; asks(0, 0, 9) = 0; asks(0, 0, 10) = 1; asks(0, 0, 11) = -1");
        x.go("force(-1)").all("asks(0, 0, 3) = 0; asks(0, 0, 10) = 0");

        x = run(6, "\"shuns\" is asked of a CHILD, a LETTER and a TRAIT");
        x.go("letter(1, 3, 4); letter(2, 3, 4); child(8); child(8); read(0, 1)");
        x.under("shuns if child = 1 and letter = 1 and trait = 5 and house = 4 and served = 1 and knows = 1");
        x.all("asks(1, 1, 8) = 1; asks(1, 1, 7) = 0; asks(1, 0, 8) = 0; asks(0, 1, 8) = 0");

        x = run(6, "whether TRAIT t is SHUNNED: KNOWN or not");
        x.go("letter(3, 0, 0); child(8); read(0, 0)").under("shuns if trait = 0").all("of(0, 0) = 3; asks(0, 0, 3) = 1; asks(0, 0, 4) = 0");

        x = run(6, "\"shuns\" is asked on the DAY as it is");
        x.go("letter(1, 1, 1); child(1)").under("shuns if day = 999").is("asks(0, 0, 3)", 0).go("terms(0, 999)").is("asks(0, 0, 3)", 1);

        x = run(6, "A CHILD SHUNS a TRAIT, if \"shuns\" HOLDS: not, if it is BROKEN");
        x.go("letter(1, 1, 1); child(1)").under("shuns if 1/0 = 0").is("asks(0, 0, 3)", 0).under("bars;fades;worth 1");
        x.is("asks(0, 0, 3)", 0);
    }

    private static void terms() {
        Run x = run(7, "DAY 0 .. 999 (0 at first), FOUND 0 .. 10 (2), MOOD 0 .. 9 (0): what it was");
        x.accepted("terms(0, 999)", 0).accepted("terms(0, 0)", 999).accepted("terms(1, 10)", 2).accepted("terms(1, 0)", 10);
        x.accepted("terms(2, 9)", 0).accepted("terms(2, 0)", 9);
        x.all("terms(0, 7) = 0; terms(1, 8) = 0; terms(2, 9) = 0; count(13) = 7; count(14) = 8; count(15) = 9");

        x = run(7, "-1 a number that can't be: a value one beyond");
        x.go("terms(0, 7); terms(1, 8); terms(2, 5)");
        x.refused("terms(0, -1)", -1).refused("terms(0, 1000)", -1).refused("terms(1, -1)", -1).refused("terms(1, 11)", -1);
        x.refused("terms(2, -1)", -1).refused("terms(2, 10)", -1);
        x.all("count(13) = 7; count(14) = 8; count(15) = 5; count(7) = 6");

        x = run(7, "-1 a number that can't be: no such TERM, values far beyond");
        x.refused("terms(-1, 0)", -1).refused("terms(3, 0)", -1).refused("terms(MIN, 0)", -1).refused("terms(MAX, 0)", -1);
        x.refused("terms(0, MIN)", -1).refused("terms(0, MAX)", -1).refused("terms(3, -1)", -1);
    }
}
