/** Promises 30 to 36: what is known later, the likest, the lost, chances, laws compared and SCHOOLS, at their edges. */
public final class ReckonEdgesTest {
    private static final Checks CHECKS = new Checks();

    private static Run run(int promise, String sentence) {
        return CHECKS.run(promise, sentence);
    }

    public static void main(String[] args) {
        later();
        laterDays();
        likest();
        lost();
        few();
        fewParts();
        compare();
        schoolsRefused();
        schoolsSeeds();
        schoolsDays();
        schoolsOnPaper();
        schoolsDeeds();
        drawn();
        drawnStays();
        drawnBehindBack();
        drawnOfSix();
        drawnBehindRefused();
        CHECKS.carried(30, 36);
        CHECKS.close();
    }

    private static void later() {
        Run x = run(30, "n DAYS 0 .. 60 on: TRAITS. NONE");
        x.all("later(0, 0) = -1").go("letter(255, 0, 0); child(8); read(0, 0)").under("fades if day = 59;fades if day = 0 and trait = 7");
        x.quiet("later(0, 0)", 255).quiet("later(0, 1)", 127).quiet("later(0, 59)", 127).quiet("later(0, 60)", 0).quiet("later(0, 61)", -1);
        x.quiet("later(0, -1)", -1);
        x.all("later(0, MIN) = -1; later(0, MAX) = -1; later(1, 0) = -1; later(-1, 0) = -1; later(MIN, 0) = -1; later(MAX, 0) = -1");
        x.all("later(1, 61) = -1");
        x.often(5, "child(8)").go("read(0, 5)").all("later(5, 0) = 255; later(5, 60) = 0; later(6, 0) = -1; of(0, 0) = 255; count(13) = 0");

        x = run(30, "without a LAW all stays; who KNOWS nothing stays so");
        x.go("letter(255, 0, 0); child(8); child(8); read(0, 0)").all("later(0, 60) = 255; later(1, 60) = 0").under("fades");
        x.all("later(0, 1) = 0; later(1, 1) = 0; later(0, 0) = 255");
    }

    private static void laterDays() {
        Run x = run(30, "(beyond DAY 999, too)");
        x.go("letter(255, 0, 0); child(8); read(0, 0); terms(0, 999)");
        x.under("fades if day = 999 and trait = 0;fades if day = 1000 and trait = 1;fades if day = 1000+58 and trait = 2");
        x.all("later(0, 0) = 255; later(0, 1) = 254; later(0, 2) = 252; later(0, 59) = 252; later(0, 60) = 248; count(13) = 999");
        x.all("pass() = -3; of(0, 0) = 255");
        x.go("terms(0, 940)").all("later(0, 59) = 255; later(0, 60) = 254").go("terms(0, 998)").all("later(0, 1) = 255; later(0, 2) = 254");
        x.all("later(0, 3) = 252");

        x = run(30, "each DAY asked with what is KNOWN then");
        x.go("letter(255, 0, 0); child(8); read(0, 0)").under("fades if trait = 8-knows").all("later(0, 1) = 254; later(0, 2) = 252");
        x.all("later(0, 7) = 128; later(0, 8) = 0");
        x.under("fades if knows > 7 and trait < 2").all("later(0, 1) = 252; later(0, 60) = 252");

        x = run(30, "\"fades\" is asked with letter, house, served -1");
        x.go("letter(255, 255, 0); child(8); read(0, 0)").under("fades if letter > 0-1 or house > 0-1 or served > 0-1");
        x.is("later(0, 1)", 255);
        x.under("fades if letter = 0-1 and house = 0-1 and served = 0-1").all("later(0, 1) = 0");

        x = run(30, "nothing else being done: as pass() would have it");
        x.go("letter(255, 0, 0); child(8); read(0, 0)").under("fades if trait = day").all("later(0, 3) = 248; pass() = 1; pass() = 2");
        x.all("pass() = 3; of(0, 0) = 248; later(0, 0) = 248; later(0, 5) = 0");
    }

    private static void likest() {
        Run x = run(31, "NONE: there is no such LETTER, no CHILDREN, what 0, 1");
        x.all("likest(0, 0) = -1").go("letter(255, 0, 0)").quiet("likest(0, 0)", -1).quiet("likest(0, 1)", -1).go("child(8)");
        x.quiet("likest(0, 0)", 0);
        x.quiet("likest(0, 1)", 8).quiet("likest(0, 2)", -1).quiet("likest(0, -1)", -1).quiet("likest(1, 0)", -1);
        x.quiet("likest(-1, 0)", -1);
        x.all("likest(MIN, 0) = -1; likest(MAX, 0) = -1; likest(0, MIN) = -1; likest(0, MAX) = -1").often(7, "letter(0, 0, 0)");
        x.all("likest(7, 1) = 0; likest(8, 1) = -1");

        x = run(31, "in how many TRAITS it differs: none, all; both ways");
        x.go("letter(255, 0, 0); letter(0, 0, 0); letter(15, 0, 0); letter(240, 0, 0); child(8); read(0, 0)");
        x.all("likest(0, 1) = 0; likest(1, 1) = 8; likest(2, 1) = 4");
        x.go("child(8); read(2, 1)").all("likest(0, 0) = 0; likest(1, 0) = 1; likest(1, 1) = 4; likest(2, 0) = 1; likest(2, 1) = 0");
        x.all("likest(3, 0) = 0; likest(3, 1) = 4");

        x = run(31, "the fewest; the lowest: of six");
        x.go("letter(255, 0, 0)").often(6, "child(8)").all("likest(0, 0) = 0; likest(0, 1) = 8").go("read(0, 5)");
        x.all("likest(0, 0) = 5; likest(0, 1) = 0");
        x.go("read(0, 3)").all("likest(0, 0) = 3").go("read(0, 0)").all("likest(0, 0) = 0");

        x = run(31, "LIKEST to a LETTER: ANSWERED or not, by CHILDREN that are BARRED or not, by its CONTENT, not by its NEED");
        x.go("letter(3, 12, 1); child(8); child(8); read(0, 1)").under("bars if child = 1").all("likest(0, 0) = 1; likest(0, 1) = 0");
        x.all("answer(0, 0) = 0; likest(0, 0) = 1; likest(0, 1) = 0");
    }

    private static void lost() {
        Run x = run(32, "as bits: none there, all eight");
        x.quiet("lost()", 0).often(8, "letter(128, 128, 1)").quiet("lost()", 255).go("child(8)").is("lost()", 255).go("read(0, 0)");
        x.is("lost()", 0);

        x = run(32, "LETTERS not ANSWERED");
        x.often(8, "letter(0, 255, 1)").go("child(8); answer(0, 0); answer(7, 0)").is("lost()", 126).go("undo()").is("lost()", 254);

        x = run(32, "of whose NEED something is KNOWN by nobody: not all of it need be, one TRAIT is enough");
        x.go("letter(127, 255, 0); letter(128, 0, 0); child(8); child(8)").is("lost()", 1).go("read(0, 0)").is("lost()", 1);
        x.go("read(1, 1)").is("lost()", 0);
        x.go("lose(0, 0)").is("lost()", 1);

        x = run(32, "by the last CHILD, too");
        x.go("letter(255, 255, 1)").often(6, "child(8)").is("lost()", 1).go("read(0, 5)").is("lost()", 0);

        x = run(32, "KNOWN by nobody: one that is BARRED is somebody; with a HOUSE or without");
        x.go("letter(1, 1, 1); letter(0, 1, 0); letter(0, 2, 0); letter(0, 2, 1); child(8); read(0, 0)").under("bars").is("lost()", 12);
    }

    private static void few() {
        Run x = run(33, "k 1 .. 20, n 0 .. 99. NONE");
        x.quiet("few(1, 0)", 1000000000000L).quiet("few(20, 0)", 1000000000000L).quiet("few(1, 99)", 252);
        x.quiet("few(20, 99)", 480021412253L);
        x.quiet("few(0, 0)", -1).quiet("few(21, 0)", -1).quiet("few(1, -1)", -1).quiet("few(1, 100)", -1).quiet("few(0, 99)", -1);
        x.quiet("few(21, 99)", -1);
        x.quiet("few(20, -1)", -1).quiet("few(20, 100)", -1).quiet("few(-1, 1)", -1);
        x.all("few(MIN, 0) = -1; few(MAX, 0) = -1; few(1, MIN) = -1; few(1, MAX) = -1; few(MAX, MAX) = -1");

        x = run(33, "fewer than k are found: never, always");
        x.go("terms(1, 0)").all("few(1, 0) = 1000000000000; few(1, 99) = 1000000000000; few(20, 99) = 1000000000000");
        x.go("terms(1, 10)").all("few(1, 0) = 1000000000000; few(1, 1) = 0; few(2, 1) = 1000000000000; few(20, 19) = 1000000000000");
        x.all("few(20, 20) = 0; few(20, 99) = 0");
        x.go("terms(1, 9)").all("few(1, 1) = 100000000000; few(1, 12) = 1; few(1, 13) = 0; few(2, 13) = 10; few(20, 20) = 878423345307");
    }

    private static void fewParts() {
        Run x = run(33, "LETTER by LETTER, by how many were, both cut");
        x.go("terms(1, 3)").all("few(1, 1) = 700000000000; few(1, 12) = 13841287201; few(1, 13) = 9688901040; few(2, 13) = 63669921123");
        x.all("few(1, 99) = 0");
        x.all("few(20, 19) = 999999999901; few(20, 20) = 999999999848; few(20, 21) = 999999999344; few(20, 99) = 10402336747");
        x.all("few(19, 99) = 5351906855");
        x.go("terms(1, 5)").all("few(1, 13) = 122070312; few(2, 13) = 1708984374; few(20, 19) = 999999999958; few(10, 20) = 411901473972");
        x.all("few(20, 99) = 200");
        x.go("terms(1, 1)").all("few(1, 13) = 254186582832; few(2, 13) = 621344980257; few(20, 99) = 998255635351; few(2, 99) = 354151967");

        x = run(33, "of n LETTERS, whatever LETTERS there are");
        x.often(8, "letter(1, 1, 1)").go("terms(0, 5); terms(2, 5)").all("few(1, 2) = 640000000000; few(2, 2) = 960000000000");
        x.all("few(3, 2) = 1000000000000").go("child(8); answer(0, 0); answer(1, 0)").all("few(1, 2) = 640000000000");
    }

    private static void compare() {
        Run x = run(34, "NONE (no such LAW); by none (NONE)");
        x.quiet("compare(0)", -1).quiet("compare(NONE)", 0).quiet("compare(-2)", -1).go("letter(7, 7, 1); child(8); read(0, 0)");
        x.quiet("compare(NONE)", 3);
        for (int i = 0; i < 6; i++) {
            x.law("worth " + (10 + i), i);
        }
        x.quiet("compare(0)", 10).quiet("compare(5)", 15).quiet("compare(6)", -1).quiet("compare(-2)", -1);
        x.all("compare(MIN) = -1; compare(MAX) = -1; compare(-1) = 3; count(12) = -1");

        x = run(34, "of all CHILDREN to all LETTERS: none, all 48");
        x.law("worth 100", 0).all("compare(0) = 0; compare(-1) = 0").often(8, "letter(255, 255, 1)").all("compare(0) = 0");
        x.often(6, "child(8)").all("compare(0) = 4752; compare(-1) = 0");
        for (int i = 0; i < 6; i++) {
            x.go("read(0, " + i + ")");
        }
        x.is("compare(-1)", 384);

        x = run(34, "each answer by itself: its CHILD, its LETTER");
        x.go("letter(1, 1, 1); letter(3, 7, 2); letter(7, 0, 0); child(8); child(2); read(2, 0); read(1, 1)");
        x.law("worth letter*10+child", 0);
        x.law("worth house*10+served", 1).all("compare(0) = 63; compare(1) = 67; compare(-1) = 7");

        x = run(34, "in place of that in FORCE; ANSWERED ones, those without a HOUSE, BARRED ones count");
        x.go("letter(1, 1, 0); letter(1, 1, 1); child(8); read(0, 0); answer(1, 0)").law("worth 5;bars", 0).law("worth 7", 1);
        x.go("force(0)");
        x.all("compare(-1) = 2; compare(0) = 10; compare(1) = 14; count(12) = 0; asks(0, 0, 1) = 5");
    }

    private static Run school(int promise, String sentence) {
        return run(promise, sentence).go("letter(3, 1, 1); letter(12, 0, 9); child(8); child(8)");
    }

    private static void schoolsRefused() {
        Run x = school(35, "-1: a SEED (0 .. 1,000,000), n 1 .. 60");
        x.refused("schools(-1, 1)", -1).refused("schools(1000001, 1)", -1).refused("schools(0, 0)", -1).refused("schools(0, 61)", -1);
        x.refused("schools(MIN, 1)", -1).refused("schools(MAX, 1)", -1).refused("schools(0, MIN)", -1).refused("schools(0, MAX)", -1);
        x.is("count(7)", 8);

        x = school(35, "a SEED (0 .. 1,000,000), n 1 .. 60: the lowest, the highest");
        x.accepted("schools(0, 1)", 1).accepted("schools(1000000, 1)", 1).accepted("schools(0, 60)", 2).accepted("schools(1000000, 60)", 2);

        x = run(35, "-3 there are no LETTERS, no CHILDREN");
        x.refused("schools(0, 1)", -3).go("letter(1, 1, 1)").refused("schools(0, 1)", -3).go("child(1)").accepted("schools(0, 1)", 1);
        x = run(35, "-3 there are no LETTERS, no CHILDREN");
        x.go("child(1)").refused("schools(0, 1)", -3).go("letter(1, 1, 1)").accepted("schools(0, 1)", 1);

        x = run(35, "-1 and -3: the first of these in that order");
        x.refused("schools(-1, 1)", -1).refused("schools(0, 61)", -1).go("letter(1, 1, 1)").refused("schools(1000001, 1)", -1);
        x.refused("schools(0, 0)", -1).all("count(7) = 4; count(9) = 0");
    }

    /** The DRAWS are told by hand: with two LETTERS and two CHILDREN, with eight and six. */
    private static void schoolsSeeds() {
        Run x = school(35, "at 1 it is ANSWERED by it, if it can be; at 0 READ, at 2 nothing");
        // 1 by 1 answered, again twice, nothing, 0 by 0 answered, 1 read to 0
        x.all("schools(0, 1) = 1; schools(0, 3) = 1; schools(0, 4) = 1; schools(0, 5) = 2; drawn(0, 0) = 0; drawn(0, 1) = 0");
        x.all("schools(0, 6) = 2; drawn(0, 0) = 12; drawn(0, 1) = 1; drawn(1, 1) = 0");
        // 1 read to 0, answered by 0
        x.all("schools(999999, 1) = 0; drawn(0, 0) = 12; drawn(0, 1) = 1; schools(999999, 2) = 1");
        // the first draw is 1,000,002, the greatest there is; then 0
        x.all("schools(327279, 2) = 0; drawn(1, 1) = 0; schools(327279, 3) = 0; drawn(1, 0) = 3; drawn(1, 1) = 1");
        x.all("schools(870345, 1) = 0; schools(870345, 2) = 0; drawn(1, 0) = 12; schools(870345, 3) = 1; schools(870345, 4) = 1");

        x = run(35, "DRAWS of eight LETTERS, of six CHILDREN: the last of each");
        for (int i = 0; i < 8; i++) {
            x.go("letter(" + (1 << i) + ", 0, 1)");
        }
        x.often(6, "child(8)").all("schools(2, 1) = 0; drawn(4, 0) = 128; drawn(4, 1) = 1; schools(9, 3) = 0; drawn(5, 0) = 32");
        x.all("drawn(5, 1) = 1; drawn(3, 1) = 0");
        x.all("schools(0, 3) = 1; drawn(5, 0) = 0; schools(8, 1) = 1");

        x = school(35, "ANSWERED by it, if it can be: not where it is BARRED, without a HOUSE, ANSWERED");
        x.under("bars").all("schools(0, 5) = 0; count(9) = 0; status() = 0").go("force(-1); answer(1, 0)").all("schools(0, 5) = 1");
        x = run(35, "ANSWERED by it, if it can be: not where it is BARRED, without a HOUSE, ANSWERED");
        x.go("letter(3, 1, 0); letter(12, 0, 0); child(8); child(8)").all("schools(0, 60) = 0");
    }

    /** With SEED 999999 the first time LETTER 1 is READ to CHILD 0. */
    private static void schoolsDeeds() {
        Run x = run(35, "READ, whether it has a HOUSE or not");
        x.go("letter(3, 1, 1); letter(12, 0, 0); child(8); child(8)").all("schools(999999, 1) = 0; drawn(0, 0) = 12; drawn(0, 1) = 1");

        x = school(35, "READ, whether it is ANSWERED or not, BARRED or not");
        x.go("answer(1, 0)").all("schools(999999, 1) = 0; drawn(0, 0) = 12; drawn(0, 1) = 1");
        x.under("bars").all("schools(999999, 1) = 0; drawn(0, 0) = 12; drawn(0, 1) = 1");

        x = school(35, "READ as the CHILD SHUNS");
        x.under("shuns if letter = 1 and child = 0 and trait = 2").all("schools(999999, 1) = 0; drawn(0, 0) = 8; drawn(0, 1) = 1");

        x = run(35, "READ as long as the CHILD KNOWS fewer than it BEARS");
        x.go("letter(3, 1, 1); letter(12, 0, 9); child(1); child(8)").all("schools(999999, 1) = 0; drawn(0, 0) = 4; drawn(0, 1) = 1");

        x = school(35, "ANSWERED lets nobody grow, nor does a DAY");
        x.all("schools(0, 1) = 1; drawn(0, 1) = 0; drawn(1, 1) = 0");

        x = run(35, "a DRAW of one LETTER, of one CHILD is a DRAW, too");
        // the third DRAW is 1, 0, 2, 2; the second would be 2, 1, 1, 0, the first 0, 1, 2, 2
        x.go("letter(3, 1, 1); child(8)").all("schools(0, 1) = 1; drawn(0, 1) = 0; schools(2, 1) = 0; drawn(0, 1) = 1");
        x.all("schools(4, 1) = 0; drawn(0, 1) = 0; schools(7, 1) = 0; drawn(0, 1) = 0");
    }

    private static void schoolsDays() {
        Run x = school(35, "(at DAY 999 it ends)");
        x.go("terms(0, 999)").accepted("schools(999999, 60)", 0).all("drawn(0, 0) = 0; drawn(0, 1) = 0; count(13) = 999");
        x.go("terms(0, 998)").all("schools(999999, 60) = 0; drawn(0, 0) = 12; drawn(0, 1) = 1").go("terms(0, 997)");
        x.all("schools(999999, 60) = 1; drawn(0, 1) = 1");
        x.go("terms(0, 998)").all("schools(0, 60) = 1").go("terms(0, 994)").all("schools(0, 60) = 2; drawn(0, 1) = 0").go("terms(0, 993)");
        x.all("schools(0, 60) = 2; drawn(0, 1) = 1");

        x = school(35, "then the DAY passes: behind the last, too");
        x.under("fades if day = 0").all("schools(999999, 1) = 0; drawn(0, 0) = 0; drawn(0, 1) = 1");
        x.under("fades if day = 1").all("schools(999999, 1) = 0; drawn(0, 0) = 12; schools(999999, 2) = 1; drawn(0, 0) = 0");

        x = school(35, "GROWN 99 at most");
        x.often(98, "read(1, 0)").all("schools(999999, 1) = 0; drawn(0, 1) = 99").go("read(1, 0)");
        x.all("schools(999999, 1) = 0; drawn(0, 1) = 99");
    }

    private static void schoolsOnPaper() {
        Run x = school(35, "on paper");
        x.go("pass(); image(0); told(0, 1)").is("schools(0, 60)", 2);
        x.all("count(1) = 2; count(5) = 1; count(13) = 1; of(0, 0) = 0; of(0, 2) = 0; at(0, 3) = 0; count(3) = 1; undo() = 3");
        x.all("count(13) = 0; back(0) = 0; count(13) = 1");
        x.all("schools(0, 60) = 2; schools(0, 60) = 2; count(9) = 0");
    }

    private static void drawn() {
        Run x = school(36, "KNOWS (what 0), GROWN (1). NONE");
        x.quiet("drawn(0, 0)", -1).quiet("drawn(0, 1)", -1).go("schools(999999, 1)").quiet("drawn(0, 0)", 12).quiet("drawn(0, 1)", 1);
        x.quiet("drawn(1, 0)", 0);
        x.quiet("drawn(0, 2)", -1).quiet("drawn(0, -1)", -1).quiet("drawn(2, 0)", -1).quiet("drawn(-1, 0)", -1);
        x.all("drawn(MIN, 0) = -1; drawn(MAX, 0) = -1; drawn(0, MIN) = -1; drawn(0, MAX) = -1");

        x = school(36, "Behind the latest SCHOOLS: those that are REFUSED leave them");
        x.go("schools(999999, 1); schools(-1, 1); schools(0, 0); schools(0, 61)").all("drawn(0, 0) = 12; drawn(0, 1) = 1");
        x.go("schools(0, 1)").all("drawn(0, 0) = 0; drawn(0, 1) = 0");

        x = run(36, "all six CHILDREN");
        x.go("letter(255, 0, 0)").often(6, "child(8)").go("read(0, 5); schools(0, 1)").all("drawn(5, 0) = 255; drawn(5, 1) = 1");
        x.all("drawn(6, 0) = -1; drawn(0, 0) = 0");

        x = school(36, "Behind the latest SCHOOLS, whatever is done then");
        x.go("image(0); schools(999999, 1); read(0, 0); read(0, 1); pass()").all("drawn(0, 0) = 12; drawn(0, 1) = 1; drawn(1, 0) = 0");
        x.go("back(0)").all("drawn(0, 0) = 12; drawn(0, 1) = 1");
    }

    /** Every call but schools(), with the answer that tells that it was done, or REFUSED. */
    private static void drawnStays() {
        String[] calls = {"letter(1, 1, 1) = 2", "letter(-1, 1, 1) = -1", "child(3) = 2", "child(9) = -1", "terms(0, 5) = 0",
            "terms(1, 5) = 2", "terms(2, 5) = 0", "terms(3, 5) = -1", "told(0, 1) = 1", "told(8, 1) = -1", "forget() = 0",
            "read(1, 0) = 2", "read(0, 1) = 1", "read(9, 0) = -2", "answer(0, 0) = 1", "answer(0, 9) = -2", "lose(0, 0) = 0",
            "lose(1, 0) = -3", "pass() = 1", "undo() = 0", "force(-1) = -1", "force(0) = -2", "image(0) = 0", "image(1) = 0",
            "image(2) = -1", "back(0) = -2", "back(2) = -1", "row() = -6", "law() = -6", "orders() = -6", "lesson(0, 1, -1) = 0",
            "heard(0, -1) = 4", "ask(0, 1) = 2", "matched(0) = 1", "together(0, 1) = 1", "clashes(1) = 0", "later(0, 60) = 1",
            "likest(0, 1) = 0", "lost() = 0", "few(1, 0) = 1000000000000", "compare(-1) = 1", "drawn(0, 2) = -1", "count(0) = 2",
            "feed(0, 0, 0, 0, 0) = 20", "end(0) = 0", "at(1, 0) = 12", "of(0, 0) = 1", "asks(0, 0, 0) = 1", "blots() = 0",
            "fault() = -1", "stopped() = -1", "status() = 0"};
        for (String call : calls) {
            Run x = run(36, "Behind the latest SCHOOLS, which other calls leave: " + call);
            x.go("letter(1, 1, 1); letter(12, 0, 9); child(8); child(8); read(0, 0)").all("schools(999999, 1) = 0").all(call);
            x.all("drawn(0, 0) = 13; drawn(0, 1) = 2; drawn(1, 0) = 0; drawn(1, 1) = 0; drawn(2, 0) = -1; drawn(2, 1) = -1");
        }
        Run x = school(36, "Behind the latest SCHOOLS: TEXTS and ROWS leave them");
        x.go("schools(999999, 1)").law("worth 1", 0).go("force(0)").orders("read 0 to 0;pass;answer 1 by 1;lose 0 of 0", 4);
        x.orders("pass;lose 7 of 0", -3).orders("pas", -6).law("bar", -6).row(1, 1, 1, 1).go("undo()");
        x.all("drawn(0, 0) = 12; drawn(0, 1) = 1; drawn(1, 0) = 0; drawn(1, 1) = 0; drawn(2, 0) = -1");
    }

    /** IMAGES keep all but the latest SCHOOLS: BACK to one there may be other CHILDREN than those had. */
    private static void drawnBehindBack() {
        Run x = run(36, "the latest SCHOOLS are kept by no IMAGE: back() leaves fewer CHILDREN than they had");
        x.go("letter(3, 1, 1); letter(12, 0, 9); image(0); child(8); image(1); child(8)").is("schools(327279, 3)", 0);
        x.all("drawn(0, 0) = 0; drawn(0, 1) = 0; drawn(1, 0) = 3; drawn(1, 1) = 1; drawn(2, 0) = -1; drawn(2, 1) = -1");
        x.accepted("back(1)", 0).all("count(2) = 1; of(1, 0) = -1");
        x.quiet("drawn(0, 0)", 0).quiet("drawn(0, 1)", 0).quiet("drawn(1, 0)", 3).quiet("drawn(1, 1)", 1).quiet("drawn(2, 0)", -1);
        x.accepted("back(0)", 0).all("count(2) = 0; of(0, 0) = -1");
        x.quiet("drawn(0, 0)", 0).quiet("drawn(0, 1)", 0).quiet("drawn(1, 0)", 3).quiet("drawn(1, 1)", 1).quiet("drawn(2, 0)", -1);
        x.quiet("drawn(1, 2)", -1).quiet("drawn(-1, 0)", -1);

        x = run(36, "another CHILD that comes to the number of one that is gone is not the one of the latest SCHOOLS");
        x.go("letter(3, 1, 1); letter(12, 0, 9); image(0); child(8); child(8); schools(327279, 3); back(0); child(1); child(1); read(1, 1)");
        x.all("of(1, 0) = 4; of(1, 2) = 1; drawn(1, 0) = 3; drawn(1, 1) = 1; drawn(0, 1) = 0");

        x = run(36, "kept as the latest: later SCHOOLS with fewer CHILDREN, with more");
        x.go("letter(3, 1, 1); letter(12, 0, 9); child(8); image(0); child(8); image(1); schools(327279, 3); back(0)");
        x.is("drawn(1, 0)", 3).accepted("schools(999999, 1)", 0).all("drawn(0, 0) = 12; drawn(0, 1) = 1; drawn(1, 0) = -1; drawn(1, 1) = -1");
        x.accepted("back(1)", 0).all("count(2) = 2; of(1, 0) = 0; drawn(0, 0) = 12; drawn(1, 0) = -1; drawn(1, 1) = -1");
        x.accepted("schools(327279, 3)", 0).all("drawn(0, 0) = 0; drawn(1, 0) = 3; drawn(1, 1) = 1");

        x = run(36, "a CHILD that came behind the latest SCHOOLS is not in them");
        x.go("letter(3, 1, 1); child(8); schools(0, 1); child(8)").all("count(2) = 2; of(1, 0) = 0; drawn(1, 0) = -1; drawn(1, 1) = -1");
        x.go("schools(0, 1)").all("drawn(1, 0) = 0; drawn(1, 1) = 0");

        x = run(36, "back() to an IMAGE ahead of any SCHOOLS, and none were: NONE");
        x.go("letter(3, 1, 1); child(8); image(0); child(8); back(0)").all("drawn(0, 0) = -1; drawn(0, 1) = -1; drawn(1, 0) = -1");
    }

    private static void drawnOfSix() {
        Run x = run(36, "all six CHILDREN, where back() left none");
        x.go("image(0); letter(63, 0, 0)");
        for (int i = 0; i < 6; i++) {
            x.go("child(" + (i + 1) + ")").often(i, "read(0, " + i + ")");
        }
        x.go("terms(0, 999)").is("schools(5, 60)", 0).go("back(0)").all("count(0) = 0; count(2) = 0");
        x.all("drawn(0, 0) = 0; drawn(1, 0) = 3; drawn(2, 0) = 7; drawn(3, 0) = 15; drawn(4, 0) = 31; drawn(5, 0) = 63");
        x.all("drawn(0, 1) = 0; drawn(1, 1) = 1; drawn(2, 1) = 2; drawn(3, 1) = 3; drawn(4, 1) = 4; drawn(5, 1) = 5");
        x.all("drawn(6, 0) = -1; drawn(6, 1) = -1; drawn(MAX, 0) = -1; drawn(MIN, 0) = -1; drawn(5, 2) = -1");
    }

    private static void drawnBehindRefused() {
        Run x = run(35, "-3 there are no CHILDREN any more: the latest SCHOOLS stay");
        x.go("letter(3, 1, 1); letter(12, 0, 9); image(0); child(8); child(8); schools(999999, 1); back(0)");
        x.refused("schools(0, 1)", -3).refused("schools(0, 61)", -1).all("drawn(0, 0) = 12; drawn(0, 1) = 1; drawn(1, 0) = 0; drawn(2, 0) = -1");

        x = run(35, "-3 there are no LETTERS any more: the latest SCHOOLS stay");
        x.go("child(8); child(8); image(0); letter(3, 1, 1); letter(12, 0, 9); schools(999999, 1); back(0)");
        x.refused("schools(0, 1)", -3).refused("schools(-1, 1)", -1).all("drawn(0, 0) = 12; drawn(0, 1) = 1; drawn(1, 0) = 0; drawn(2, 0) = -1");
    }
}
