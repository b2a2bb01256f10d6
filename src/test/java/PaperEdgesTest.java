/** Promises 22 to 29: lessons, what was heard, who is matched, who knows together, clashes, at their edges. */
public final class PaperEdgesTest {
    private static final Checks CHECKS = new Checks();

    private static Run run(int promise, String sentence) {
        return CHECKS.run(promise, sentence);
    }

    public static void main(String[] args) {
        lessonWhose();
        lessonLengths();
        lessonCannotBe();
        lessonFirst();
        told();
        forget();
        heardWhose();
        heardSets();
        heardTold();
        ask();
        matchedWhat();
        matchedFull();
        matchedNone();
        matchedFirst();
        together();
        togetherFewest();
        clashes();
        clashesWhich();
        CHECKS.carried(22, 29);
        CHECKS.close();
    }

    /** Eight LETTERS, each with the TRAIT of its number, each with NEED of all. */
    private static Run oneTraitEach(int promise, String sentence) {
        Run x = run(promise, sentence);
        for (int i = 0; i < 8; i++) {
            x.go("letter(" + (1 << i) + ", 255, 1)");
        }
        return x;
    }

    private static void lessonWhose() {
        Run x = run(22, "NONE: there is no such CHILD, LETTER");
        x.all("lesson(0, 0, -1) = -1").go("letter(1, 1, 1)").all("lesson(0, 0, -1) = -1").go("child(8)").quiet("lesson(0, 0, NONE)", 1);
        x.quiet("lesson(1, 0, NONE)", -1).quiet("lesson(0, 1, NONE)", -1).quiet("lesson(-1, 0, NONE)", -1).quiet("lesson(0, -1, NONE)", -1);
        x.all("lesson(MIN, 0, -1) = -1; lesson(MAX, 0, -1) = -1; lesson(0, MIN, -1) = -1; lesson(0, MAX, -1) = -1; lesson(1, 0, 0) = -1");
        x.all("lesson(0, 1, 0) = -1");

        x = oneTraitEach(22, "the last CHILD, the last LETTER").often(6, "child(8)");
        x.all("lesson(5, 7, -1) = 8; lesson(6, 7, -1) = -1; lesson(5, 8, -1) = -1");
    }

    private static void lessonLengths() {
        Run x = run(22, "how many LETTERS: none, where nothing is needed or all is known");
        x.go("letter(3, 0, 0); letter(0, 3, 0); child(8)").all("lesson(0, 0, -1) = 0; lesson(0, 0, 0) = -1; lesson(0, 1, -1) = 1");
        x.all("lesson(0, 1, 0) = 0; lesson(0, 1, 1) = -1");
        x.go("read(0, 0)").all("lesson(0, 1, -1) = 0; lesson(0, 1, 0) = -1");

        x = oneTraitEach(22, "how many LETTERS: eight, each for a TRAIT; the i-th").go("child(8)");
        x.quiet("lesson(0, 0, NONE)", 8).quiet("lesson(0, 0, 0)", 0).quiet("lesson(0, 0, 7)", 7).quiet("lesson(0, 0, 8)", -1);
        x.all("lesson(0, 0, 1) = 1; lesson(0, 0, 2) = 2; lesson(0, 0, 3) = 3; lesson(0, 0, 4) = 4; lesson(0, 0, 5) = 5");
        x.all("lesson(0, 0, 6) = 6");
        x.quiet("lesson(0, 0, -2)", -1).quiet("lesson(0, 0, MIN)", -1).quiet("lesson(0, 0, MAX)", -1).quiet("lesson(0, 0, 9)", -1);
        x.go("read(7, 0)").all("lesson(0, 0, -1) = 7; lesson(0, 0, 6) = 6; lesson(0, 0, 7) = -1; of(0, 0) = 128; of(0, 2) = 1");
        x.all("count(5) = 1");
    }

    private static void lessonCannotBe() {
        Run x = oneTraitEach(22, "NONE (it can't be): one more than the CHILD BEARS").go("child(7); child(8)");
        x.all("lesson(0, 0, -1) = -1; lesson(0, 0, 0) = -1; lesson(1, 0, -1) = 8; lesson(0, 0, -1) = -1; lesson(0, 0, 7) = -1");

        x = run(22, "NONE (it can't be): whatever LESSON another CHILD had ahead of it");
        x.go("letter(1, 3, 0); letter(2, 4, 0); child(8); child(8)").under("shuns if child = 0 and knows = 0");
        x.all("lesson(1, 0, -1) = 2; lesson(1, 1, -1) = -1; lesson(0, 0, -1) = -1; lesson(0, 0, 0) = -1");

        x = run(22, "just as many as the CHILD BEARS");
        x.go("letter(1, 3, 0); letter(2, 7, 0); child(2)").all("lesson(0, 0, -1) = 2; lesson(0, 1, -1) = -1");

        x = run(22, "NONE (it can't be): no LETTER has it");
        x.go("letter(127, 128, 0); letter(0, 127, 0); child(8)").all("lesson(0, 0, -1) = -1; lesson(0, 0, 0) = -1; lesson(0, 1, -1) = 1");

        x = run(22, "NONE (it can't be): the CHILD KNOWS as much as it BEARS");
        x.go("letter(1, 0, 0); letter(2, 2, 0); child(1)").all("lesson(0, 1, -1) = 1").go("read(0, 0)");
        x.all("lesson(0, 1, -1) = -1; lesson(0, 1, 0) = -1");
        x.go("lose(0, 0)").all("lesson(0, 1, -1) = 1; lesson(0, 1, 0) = 1");

        x = run(22, "NONE (it can't be): it is SHUNNED");
        x.go("letter(3, 2, 0); child(8)").under("shuns if trait = 1").all("lesson(0, 0, -1) = -1").go("force(-1)");
        x.all("lesson(0, 0, -1) = 1");
    }

    private static void lessonFirst() {
        Run x = run(22, "the fewest; the first as a row");
        x.go("letter(1, 7, 0); letter(2, 0, 0); letter(4, 0, 0); letter(3, 0, 0); letter(6, 0, 0); child(8)");
        x.all("lesson(0, 0, -1) = 2; lesson(0, 0, 0) = 0; lesson(0, 0, 1) = 4").go("letter(7, 0, 0)");
        x.all("lesson(0, 0, -1) = 1; lesson(0, 0, 0) = 5");

        x = run(22, "the first as a row: the same LETTERS the other way round come behind");
        x.go("letter(4, 0, 0); letter(2, 6, 0); letter(2, 0, 0); letter(4, 0, 0); child(8)").all("lesson(0, 1, 0) = 0");
        x.all("lesson(0, 1, 1) = 1; lesson(0, 1, -1) = 2");

        x = run(22, "(any): ANSWERED ones, those without a HOUSE");
        x.go("letter(1, 3, 1); letter(2, 0, 0); child(8); answer(0, 0)").all("lesson(0, 0, -1) = 2; lesson(0, 0, 0) = 0");
        x.all("lesson(0, 0, 1) = 1");

        x = run(22, "for a CHILD and a LETTER: BARRED or not");
        x.go("letter(1, 3, 1); letter(2, 0, 1); child(8)").under("bars").all("asks(0, 0, 2) = 1; lesson(0, 0, -1) = 2; lesson(0, 0, 1) = 1");

        x = run(22, "(as often as may be): the same LETTER twice");
        x.go("letter(7, 1, 0); child(8)").under("shuns if trait + knows < 2 or trait + knows > 2");
        x.all("read(0, 0) = 1; of(0, 0) = 4; lesson(0, 0, -1) = 2");
        x.all("lesson(0, 0, 0) = 0; lesson(0, 0, 1) = 0; lesson(0, 0, 2) = -1");

        x = run(22, "(GROWN as now in laws)");
        x.go("letter(3, 2, 0); child(8)").under("shuns if trait = 1 and grown < 1").all("lesson(0, 0, -1) = -1").go("read(0, 0)");
        x.all("lesson(0, 0, -1) = 1");
    }

    private static void told() {
        Run x = run(23, "TOLD, 8 at most: how often there was");
        for (int i = 1; i <= 7; i++) {
            x.is("told(0, 1)", i);
        }
        x.accepted("told(7, 0)", 8).refused("told(0, 1)", -5).refused("told(7, 0)", -5).all("count(3) = 8; count(10) = 2");

        x = run(23, "a TRAIT 0 .. 7 is known (1) or not (0)");
        x.accepted("told(0, 0)", 1).accepted("told(7, 1)", 2).refused("told(-1, 0)", -1).refused("told(8, 0)", -1);
        x.refused("told(0, -1)", -1).refused("told(0, 2)", -1);
        x.refused("told(MIN, 0)", -1).refused("told(MAX, 0)", -1).refused("told(0, MIN)", -1).refused("told(0, MAX)", -1);
        x.all("count(3) = 2; count(7) = 8");

        x = run(23, "-1 and -5: the first of these in that order");
        x.often(8, "told(0, 1)").refused("told(8, 0)", -1).refused("told(0, 2)", -1).refused("told(-1, -1)", -1);
        x.all("count(7) = 3; count(10) = 0");
    }

    private static void forget() {
        Run x = run(24, "TOLD is nothing then: how often there was");
        x.quiet("forget()", 0).go("told(0, 1)").quiet("forget()", 1).quiet("forget()", 0).often(9, "told(0, 1)").quiet("forget()", 8);
        x.all("count(3) = 0").accepted("told(0, 0)", 1);

        x = run(24, "what was TOLD counts no more");
        x.go("child(8); told(0, 1)").all("heard(0, -1) = 0; forget() = 1; heard(0, -1) = 1").go("told(7, 0)").all("heard(0, -1) = 1");
    }

    private static void heardWhose() {
        Run x = run(25, "NONE: there is no such CHILD");
        x.all("heard(0, -1) = -1").go("letter(1, 1, 1)").all("heard(0, -1) = -1").go("child(8)").quiet("heard(0, NONE)", 2);
        x.quiet("heard(1, NONE)", -1).quiet("heard(-1, NONE)", -1).quiet("heard(MIN, 0)", -1).quiet("heard(MAX, 0)", -1);
        x.often(5, "child(8)").all("heard(5, -1) = 2; heard(6, -1) = -1");

        x = run(25, "how many sets (i NONE), the i-th: none beyond");
        x.go("letter(1, 0, 0); letter(2, 0, 0); child(8)").all("heard(0, -1) = 4; heard(0, 0) = 0; heard(0, 3) = 3; heard(0, 4) = -1");
        x.quiet("heard(0, -2)", -1).quiet("heard(0, 4)", -1).quiet("heard(0, MIN)", -1).quiet("heard(0, MAX)", -1);
    }

    private static void heardSets() {
        Run x = run(25, "sets of LETTERS: of none one, of eight 256");
        x.go("child(8)").all("heard(0, -1) = 1; heard(0, 0) = 0; heard(0, 1) = -1");
        for (int i = 0; i < 8; i++) {
            x.go("letter(" + (1 << i) + ", 0, 0)").is("heard(0, -1)", 2 << i).is("heard(0, " + ((2 << i) - 1) + ")", (2 << i) - 1);
            x.is("heard(0, " + (2 << i) + ")", -1);
        }
        x.all("heard(0, 0) = 0; heard(0, 128) = 128; heard(0, 255) = 255; heard(0, 256) = -1");
        x.go("told(7, 1)").all("heard(0, -1) = 128; heard(0, 0) = 128; heard(0, 127) = 255; heard(0, 128) = -1");

        x = run(25, "all TOLD is so of no set");
        x.go("letter(1, 0, 0); child(8); told(1, 1)").all("heard(0, -1) = 0; heard(0, 0) = -1");
        x.go("forget(); told(0, 1); told(0, 0)").all("heard(0, -1) = 0; heard(0, 0) = -1");
        x.go("forget(); told(0, 1); told(0, 1)").all("heard(0, -1) = 1; heard(0, 0) = 1");
    }

    private static void heardTold() {
        Run y = run(25, "sets of LETTERS: ANSWERED ones, those without a HOUSE, those from which the CHILD is BARRED");
        y.go("letter(1, 0, 1); letter(2, 0, 0); child(8); answer(0, 0)").under("bars").all("heard(0, -1) = 4; heard(0, 3) = 3");
        y.go("told(0, 1); told(1, 1)").all("heard(0, -1) = 1; heard(0, 0) = 3");

        Run x = run(25, "all eight TOLD are asked, the first and the last");
        for (int i = 0; i < 8; i++) {
            x.go("letter(" + (1 << i) + ", 0, 0); told(" + i + ", " + i % 2 + ")");
        }
        x.go("child(8); child(1)").all("heard(0, -1) = 1; heard(0, 0) = 170; heard(1, -1) = 0");

        x = run(25, "a CHILD who KNEW nothing (BEARS, GROWN as this one's now), read by rising numbers");
        x.go("letter(2, 0, 0); letter(1, 0, 0); child(1); child(2); read(0, 0); read(1, 1); told(0, 1)");
        x.all("heard(0, -1) = 1; heard(0, 0) = 2; heard(1, -1) = 2; heard(1, 1) = 3");

        x = run(25, "GROWN as now: it grows not by what is read on paper");
        x.go("letter(1, 0, 0); letter(2, 0, 0); child(8); told(1, 1)").under("shuns if trait = 1 and grown = 0").all("heard(0, -1) = 0");
        x.go("read(0, 0)").all("heard(0, -1) = 2; heard(0, 0) = 2; of(0, 2) = 1");
    }

    private static void ask() {
        Run x = run(26, "NONE: there is no such CHILD, what 0, 1");
        x.all("ask(0, 0) = -1").go("child(8)").quiet("ask(0, 0)", 0).quiet("ask(0, 1)", 1).quiet("ask(0, 2)", -1).quiet("ask(0, -1)", -1);
        x.quiet("ask(1, 0)", -1);
        x.quiet("ask(-1, 0)", -1).all("ask(MIN, 0) = -1; ask(MAX, 0) = -1; ask(0, MIN) = -1; ask(0, MAX) = -1").often(5, "child(8)");
        x.all("ask(5, 0) = 0; ask(6, 0) = -1");

        x = run(26, "NONE (no sets)");
        x.go("child(8); letter(1, 0, 0); told(1, 1)").quiet("ask(0, 0)", -1).quiet("ask(0, 1)", -1).go("forget()");
        x.all("ask(0, 0) = 0; ask(0, 1) = 1");

        x = oneTraitEach(26, "how many sets are left at most: 128 of 256").go("child(8)");
        x.all("ask(0, 0) = 0; ask(0, 1) = 128").go("told(0, 1)").all("ask(0, 0) = 1; ask(0, 1) = 64");

        x = run(26, "the sets by which it is known are counted from the first");
        x.go("letter(1, 0, 0); letter(2, 0, 0); child(8); told(0, 1)").all("ask(0, 0) = 1; ask(0, 1) = 1; heard(0, -1) = 2");

        x = run(26, "the highest TRAIT, if it alone tells sets apart");
        x.go("letter(128, 0, 0); child(8)").all("ask(0, 0) = 7; ask(0, 1) = 1");

        x = run(26, "the lowest, where none tells sets apart");
        x.go("letter(0, 0, 0); letter(0, 0, 0); child(8)").all("ask(0, 0) = 0; ask(0, 1) = 4");

        x = run(26, "the more (by which it is known, by which not) is as few as can be: rarely known, mostly known");
        x.go("letter(1, 0, 0); letter(3, 0, 0); letter(3, 0, 0); child(8)").all("ask(0, 0) = 1; ask(0, 1) = 6; heard(0, -1) = 8");
    }

    private static void matchedWhat() {
        Run x = run(27, "WORTH together (what 0), the LETTER of CHILD c (1 + c). NONE");
        x.quiet("matched(0)", 0).quiet("matched(1)", -1).quiet("matched(-1)", -1).go("letter(0, 0, 1); child(1)");
        x.quiet("matched(0)", 0).quiet("matched(1)", 0).quiet("matched(2)", -1).often(5, "child(1)");
        x.all("matched(6) = 100; matched(7) = -1");
        x.all("matched(MIN) = -1; matched(MAX) = -1; matched(-1) = -1; matched(101) = -1");

        x = run(27, "LETTERS alone, CHILDREN alone");
        x.go("letter(0, 0, 1)").all("matched(0) = 0; matched(1) = -1");
        x = run(27, "LETTERS alone, CHILDREN alone");
        x.often(6, "child(8)").all("matched(0) = 0; matched(1) = 100; matched(6) = 100; matched(7) = -1");
    }

    private static void matchedFull() {
        Run x = run(27, "six CHILDREN, eight LETTERS, all WORTH 99");
        x.often(8, "letter(0, 0, 1)").often(6, "child(1)").under("worth 99");
        x.all("matched(0) = 594; matched(1) = 0; matched(2) = 1; matched(3) = 2; matched(4) = 3; matched(5) = 4; matched(6) = 5");
        x.under("worth 99 if letter > 1;worth 98 if letter < 2").all("matched(0) = 594; matched(1) = 2; matched(6) = 7");
        x.under("worth 10 if letter = 7-child").all("matched(0) = 60; matched(1) = 7; matched(2) = 6; matched(3) = 5; matched(4) = 4");
        x.all("matched(5) = 3; matched(6) = 2");

        x = run(27, "each with one at most: more CHILDREN than LETTERS");
        x.go("letter(0, 0, 1); letter(0, 0, 9)").often(6, "child(1)").under("worth child");
        x.all("matched(0) = 9; matched(1) = 100; matched(2) = 100; matched(3) = 100; matched(4) = 100; matched(5) = 0; matched(6) = 1");

        x = run(27, "behind back() fewer CHILDREN, fewer LETTERS");
        x.go("letter(0, 0, 1); child(1); image(0); letter(0, 0, 1); letter(0, 0, 1); child(1); child(1)").law("worth 9", 0).go("force(0)");
        x.all("matched(0) = 27; matched(3) = 2").go("back(0)").all("matched(0) = 0; matched(1) = 0; matched(2) = -1").under("worth 5");
        x.all("matched(0) = 5; matched(1) = 0");

        x = run(27, "not ANSWERED, with a HOUSE, none BARRED");
        x.go("letter(0, 0, 1); letter(0, 0, 0); letter(0, 0, 1); letter(0, 0, 1); child(1); answer(0, 0)");
        x.under("bars if letter = 2;worth 10-letter");
        x.all("matched(0) = 7; matched(1) = 3; count(1) = 3; at(3, 3) = 0");
    }

    private static void matchedNone() {
        Run x = run(27, "(100: none): all are BARRED, ANSWERED or without a HOUSE");
        x.go("letter(0, 0, 1); letter(0, 0, 1); child(1); child(1)").under("bars;worth 50");
        x.all("matched(0) = 0; matched(1) = 100; matched(2) = 100");
        x.go("force(-1); answer(0, 0); answer(1, 0)").all("matched(0) = 0; matched(1) = 100; matched(2) = 100");
        x = run(27, "(100: none): all are BARRED, ANSWERED or without a HOUSE");
        x.often(8, "letter(255, 255, 0)").go("child(8); read(0, 0)").all("matched(0) = 0; matched(1) = 100");
    }

    private static void matchedFirst() {
        Run y = run(27, "CHILDREN with LETTERS: also one that KNOWS nothing of the NEED, or not all");
        y.go("letter(1, 3, 1); letter(4, 4, 1); child(8); child(8); read(0, 0)").all("matched(0) = 1; matched(1) = 0; matched(2) = 1");

        Run x = run(27, "the first as a row of LETTERS by CHILDREN (100: none, behind all)");
        x.go("letter(0, 0, 1); letter(0, 0, 1); child(1); child(1); child(1)").all("matched(0) = 0; matched(1) = 0; matched(2) = 1");
        x.all("matched(3) = 100");
        x.under("worth 5 if letter = 1").all("matched(0) = 5; matched(1) = 0; matched(2) = 1; matched(3) = 100");
        x.under("worth 5 if child = 2").all("matched(0) = 5; matched(1) = 0; matched(2) = 100; matched(3) = 1");
        x.under("worth 5 if child > 0").all("matched(0) = 10; matched(1) = 100; matched(2) = 0; matched(3) = 1");
        x.under("worth 5;bars if child = 0 and letter = 0").all("matched(0) = 10; matched(1) = 1; matched(2) = 0; matched(3) = 100");

        x = run(27, "the most WORTH together, not the most WORTH of the first");
        x.go("letter(0, 0, 1); letter(0, 0, 1); child(1); child(1)");
        x.under("worth 9;worth 8 if letter = 1;worth 0 if child = 1 and letter = 1;worth 7 if child = 1 and letter = 0");
        x.all("matched(0) = 15; matched(1) = 1; matched(2) = 0");
    }

    private static void together() {
        Run x = run(28, "NONE: there is no such LETTER, what 0, 1");
        x.all("together(0, 0) = -1").go("letter(1, 1, 1); child(8); read(0, 0)").quiet("together(0, 0)", 1).quiet("together(0, 1)", 1);
        x.quiet("together(0, 2)", -1).quiet("together(0, -1)", -1).quiet("together(1, 0)", -1).quiet("together(-1, 0)", -1);
        x.all("together(MIN, 0) = -1; together(MAX, 0) = -1; together(0, MIN) = -1; together(0, MAX) = -1").often(7, "letter(0, 1, 0)");
        x.all("together(7, 1) = 1; together(8, 1) = -1");

        x = run(28, "how many: none, where nothing is needed, also without CHILDREN");
        x.go("letter(1, 0, 1); letter(1, 1, 1)").all("together(0, 0) = 0; together(0, 1) = 0; together(1, 0) = -1; together(1, 1) = -1");
        x.go("child(8); read(0, 0)");
        x.all("together(0, 0) = 0; together(0, 1) = 0; together(1, 0) = 1; together(1, 1) = 1");

        x = run(28, "how many: all six; NONE (not by all)");
        for (int i = 0; i < 6; i++) {
            x.go("letter(" + (1 << i) + ", 63, 1); child(8); read(" + i + ", " + i + ")");
        }
        x.go("letter(0, 127, 1); letter(0, 31, 1)").all("together(0, 0) = 6; together(0, 1) = 63; together(6, 0) = -1");
        x.all("together(6, 1) = -1; together(7, 0) = 5; together(7, 1) = 31");
        x.go("lose(5, 5)").all("together(0, 0) = -1; together(0, 1) = -1; together(7, 1) = 31");
    }

    private static void togetherFewest() {
        Run x = run(28, "the fewest; the lowest as bits");
        x.go("letter(15, 255, 0); letter(240, 0, 0); letter(255, 0, 0)").often(6, "child(8)");
        x.go("read(0, 1); read(1, 2); read(0, 3); read(1, 4)").all("together(0, 0) = 2; together(0, 1) = 6").under("bars");
        x.all("together(0, 0) = 2; together(0, 1) = 6").go("read(2, 5)").all("together(0, 0) = 1; together(0, 1) = 32").go("read(2, 0)");
        x.all("together(0, 1) = 1");

        x = run(28, "of a LETTER: ANSWERED or not");
        x.go("letter(1, 1, 1); child(8); read(0, 0); answer(0, 0)").all("at(0, 3) = 1; together(0, 0) = 1; together(0, 1) = 1");
    }

    private static void clashes() {
        Run x = run(29, "CLASHES of a HOUSE 1 .. 9. NONE");
        x.quiet("clashes(0)", -1).quiet("clashes(1)", 0).quiet("clashes(9)", 0).quiet("clashes(10)", -1).quiet("clashes(-1)", -1);
        x.all("clashes(MIN) = -1; clashes(MAX) = -1").go("letter(1, 2, 9); letter(2, 0, 9); letter(1, 2, 1); letter(2, 0, 1)");
        x.go("letter(1, 2, 0); letter(2, 0, 0)");
        x.all("clashes(9) = 1; clashes(1) = 1; clashes(0) = -1; clashes(5) = 0");

        x = run(29, "twos of eight LETTERS: all, none");
        for (int i = 0; i < 8; i++) {
            x.go("letter(" + (1 << i) + ", 255, 4)");
        }
        x.is("clashes(4)", 28);
        x = run(29, "twos of eight LETTERS: all, none");
        x.often(8, "letter(255, 255, 4)").is("clashes(4)", 0);
        x = run(29, "one LETTER alone is no two");
        x.go("letter(1, 254, 4)").is("clashes(4)", 0);
    }

    private static void clashesWhich() {
        Run x = run(29, "of which one has NEED of a TRAIT that is CONTENT of the other one and not of itself");
        x.go("letter(0, 128, 1); letter(128, 0, 1)").is("clashes(1)", 1).go("letter(128, 128, 1)").is("clashes(1)", 2);
        x = run(29, "the later one has NEED of it");
        x.go("letter(128, 0, 1); letter(0, 128, 1)").is("clashes(1)", 1).go("letter(1, 0, 9); letter(0, 1, 9)");
        x.all("clashes(9) = 1; clashes(1) = 1");
        x = run(29, "both have: one two");
        x.go("letter(1, 2, 1); letter(2, 1, 1)").is("clashes(1)", 1);
        x = run(29, "CONTENT of itself, too: none");
        x.go("letter(3, 2, 1); letter(2, 0, 1)").is("clashes(1)", 0);
        x = run(29, "of two HOUSES: none");
        x.go("letter(1, 2, 1); letter(2, 1, 2)").all("clashes(1) = 0; clashes(2) = 0");
        x = run(29, "ANSWERED ones count");
        x.go("letter(1, 2, 1); letter(2, 1, 1); child(8); answer(0, 0)").is("clashes(1)", 1);
    }
}
