/** Promises 37 to 40: IMAGES, what is counted and what status tells, at their edges. */
public final class ImageEdgesTest {
    private static final Checks CHECKS = new Checks();

    private static Run run(int promise, String sentence) {
        return CHECKS.run(promise, sentence);
    }

    public static void main(String[] args) {
        image();
        back();
        emptyAndFull();
        whatIsKept();
        whatIsNotKept();
        imagesStay();
        counts();
        countsFull();
        refusalsCounted();
        refusalsOfEach();
        statusOfEach();
        statusLeft();
        CHECKS.carried(37, 40);
        CHECKS.close();
    }

    private static void image() {
        Run x = run(37, "IMAGES 0, 1: 0; -1");
        x.refused("image(-1)", -1).refused("image(2)", -1).refused("image(MIN)", -1).refused("image(MAX)", -1).accepted("image(0)", 0);
        x.accepted("image(1)", 0);
        x.refused("image(2)", -1).refused("image(-1)", -1).accepted("image(1)", 0).is("count(7)", 6);

        x = run(37, "an IMAGE that is kept again is the later one");
        x.go("image(0); letter(1, 1, 1); image(0); letter(2, 2, 2); back(0)").all("count(0) = 1; at(0, 0) = 1; at(1, 0) = -1");
    }

    private static void back() {
        Run x = run(38, "-1; -2 it was not kept");
        x.refused("back(-1)", -1).refused("back(2)", -1).refused("back(0)", -2).refused("back(1)", -2).refused("back(MIN)", -1);
        x.refused("back(MAX)", -1);
        x.go("image(1)").refused("back(0)", -2).accepted("back(1)", 0).go("image(0)").accepted("back(0)", 0).refused("back(2)", -1);
        x.all("count(7) = 5; count(8) = 3");

        x = run(38, "-1 and -2: the first of these in that order: an IMAGE that can't be was never kept");
        x.refused("back(2)", -1).refused("back(-1)", -1).is("count(8)", 0);

        x = run(38, "an image() that is REFUSED keeps nothing");
        x.go("image(2); image(-1)").refused("back(0)", -2).refused("back(1)", -2);
    }

    private static void emptyAndFull() {
        Run x = run(38, "BACK from a full house to an empty one, and again to the full one");
        x.go("image(0)");
        for (int i = 0; i < 8; i++) {
            x.go("letter(" + (i + 1) + ", " + (i + 11) + ", " + (i + 1) + "); told(" + i + ", 0)");
        }
        for (int i = 0; i < 6; i++) {
            x.go("child(" + (i + 1) + "); read(7, " + i + ")").law("worth " + (20 + i), i);
        }
        x.go("force(5); terms(0, 999); terms(1, 10); terms(2, 9); answer(0, 0); answer(7, 5); image(1)").accepted("back(0)", 0);
        x.all("count(0) = 0; count(1) = 0; count(2) = 0; count(3) = 0; count(4) = 0; count(5) = 0; count(12) = -1; count(13) = 0");
        x.all("count(14) = 2; count(15) = 0");
        x.all("at(0, 0) = -1; of(0, 0) = -1; force(0) = -2; lost() = 0").accepted("back(1)", 0);
        x.all("count(0) = 8; count(1) = 6; count(2) = 6; count(3) = 8; count(4) = 6; count(5) = 0; count(12) = 5; count(13) = 999");
        x.all("count(14) = 10; count(15) = 9");
        x.all("at(0, 0) = 1; at(0, 3) = 1; at(7, 0) = 8; at(7, 1) = 18; at(7, 2) = 8; at(7, 3) = 1; at(6, 3) = 0; of(0, 1) = 1");
        x.all("of(5, 0) = 8; of(5, 1) = 6; of(5, 2) = 1");
        x.all("asks(5, 7, 1) = 25; force(0) = 5; asks(5, 7, 1) = 20; letter(1, 1, 1) = -5; child(1) = -5; told(0, 0) = -5; pass() = -3");
        x.law("bars", -5);
    }

    private static void whatIsKept() {
        Run x = run(38, "all that it keeps is as it was then");
        x.go("letter(3, 1, 1); letter(4, 4, 4); child(8); read(0, 0); told(0, 1)").law("worth 11;fades if trait = 1", 0).law("worth 12", 1);
        x.go("force(0); terms(0, 5); terms(1, 6); terms(2, 7); image(0)");
        x.go("answer(0, 0); lose(0, 0); read(1, 0); pass(); letter(5, 5, 5); child(1); forget(); told(2, 0); told(3, 0); force(1)");
        x.go("terms(1, 1); terms(2, 2)").law("worth 13", 2);
        x.accepted("back(0)", 0).all("count(0) = 2; count(1) = 2; count(2) = 1; count(3) = 1; count(4) = 2; count(12) = 0; count(13) = 5");
        x.all("count(14) = 6; count(15) = 7");
        x.all("at(0, 3) = 0; of(0, 0) = 3; of(0, 2) = 1; asks(0, 0, 1) = 11; of(0, 4) = 1; heard(0, -1) = 2; force(2) = -2; force(1) = 0");
        x.all("asks(0, 0, 1) = 12");

        x = run(38, "LETTERS and CHILDREN are as they were then, where others came to their places");
        x.go("image(0); letter(7, 6, 5); letter(8, 9, 0); child(4); read(0, 0); answer(0, 0); image(1); back(0)");
        x.go("letter(1, 2, 3); letter(3, 4, 4); child(2); read(1, 0); answer(1, 0); back(1)");
        x.all("at(0, 0) = 7; at(0, 1) = 6; at(0, 2) = 5; at(0, 3) = 1; at(1, 0) = 8; at(1, 1) = 9; at(1, 2) = 0; at(1, 3) = 0");
        x.all("of(0, 0) = 7; of(0, 1) = 4; of(0, 2) = 1");

        x = run(38, "LAWS are as they were then, where others came to their numbers");
        x.go("letter(1, 1, 1); child(8)").law("worth 11", 0).go("image(0)").law("worth 12", 1).go("force(1); image(1); back(0)");
        x.all("count(4) = 1; count(12) = -1; compare(1) = -1").law("worth 13", 1).go("force(1)").all("asks(0, 0, 1) = 13; compare(0) = 11");
        x.go("back(1)").all("count(4) = 2; count(12) = 1; asks(0, 0, 1) = 12; compare(1) = 12; compare(0) = 11");

        x = run(38, "what is TOLD is as it was then, number by number");
        x.go("letter(1, 0, 0); letter(2, 0, 0); child(8); told(0, 1); image(0); forget(); told(1, 0)");
        x.all("heard(0, 0) = 0; heard(0, 1) = 1; heard(0, 2) = -1");
        x.go("back(0)").all("heard(0, 0) = 1; heard(0, 1) = 3; heard(0, 2) = -1");
    }

    private static void whatIsNotKept() {
        Run x = run(38, "all but the TAPE, FAULT, BLOTS, where ORDERS stopped, the latest SCHOOLS");
        x.go("letter(3, 1, 1); letter(12, 0, 9); child(8); child(8); image(0)").row(0, 1, 1).orders("pass;lose 0 of 0", -3);
        x.law("worth", -6).go("schools(999999, 1)");
        x.go("feed(1, 1, 1, 1, 1); end(7)").accepted("back(0)", 0).all("count(6) = 7; fault() = 5; blots() = 1; stopped() = 1");
        x.all("drawn(0, 0) = 12; drawn(0, 1) = 1");
        x.go("image(1); end(0)").row(0, 1, 1, 77, 1).orders("lose 0 of 0", -3).law(" ", -6).go("schools(0, 1)").accepted("back(1)", 0);
        x.all("count(6) = 0; fault() = 1; blots() = 2; stopped() = 0; drawn(0, 0) = 0");

        x = run(38, "what can be undone (nothing, behind back())");
        x.go("letter(1, 1, 1); child(8); read(0, 0); image(0)").is("count(5)", 1).go("pass(); back(0)").is("count(5)", 0);
        x.refused("undo()", -3);
        x.all("of(0, 0) = 1; count(13) = 0").go("pass()").all("count(5) = 1; undo() = 3; undo() = -3; of(0, 0) = 1");

        x = run(38, "a back() that is REFUSED leaves what can be undone");
        x.go("pass(); image(0); pass(); back(1); back(2)").all("count(5) = 2; undo() = 3; undo() = 3; count(13) = 0; back(0) = 0");
        x.all("count(13) = 1");
    }

    private static void imagesStay() {
        Run x = run(38, "(IMAGES stay)");
        x.go("letter(1, 1, 1); image(0); letter(2, 2, 2); image(1); back(0)").all("count(0) = 1; back(1) = 0; count(0) = 2; back(0) = 0");
        x.all("count(0) = 1; back(0) = 0; count(0) = 1");

        x = run(38, "an IMAGE is not changed by what is done behind it, or behind back()");
        x.go("letter(255, 0, 1); child(8); image(0); image(1); read(0, 0); answer(0, 0); pass(); told(0, 1); back(0); read(0, 0)");
        x.go("answer(0, 0); pass(); told(0, 1)");
        x.go("back(1)").all("of(0, 0) = 0; of(0, 2) = 0; at(0, 3) = 0; count(13) = 0; count(3) = 0; back(0) = 0; of(0, 0) = 0");
        x.all("at(0, 3) = 0; count(13) = 0; count(3) = 0");

        x = run(38, "IMAGE 1 kept behind back() to IMAGE 0");
        x.go("letter(1, 1, 1); image(0); letter(2, 2, 2); image(1); back(0); image(1); letter(3, 3, 3); back(1)");
        x.all("count(0) = 1; at(0, 0) = 1");
    }

    private static void counts() {
        Run x = run(39, "0 .. 15; NONE for others");
        x.quiet("count(-1)", -1).quiet("count(16)", -1).quiet("count(0)", 0).quiet("count(15)", 0).quiet("count(12)", -1);
        x.all("count(MIN) = -1; count(MAX) = -1");
        x.go("letter(1, 1, 1)").all("count(0) = 1; count(1) = 1; count(2) = 0").go("child(1)").all("count(2) = 1; count(3) = 0");
        x.go("told(0, 1)").all("count(3) = 1; count(4) = 0");
        x.law("bars", 0).all("count(4) = 1; count(5) = 0").go("pass()").all("count(5) = 1; count(6) = 0").go("feed(0, 0, 0, 0, 0)");
        x.all("count(6) = 20; count(1) = 1");
        x.go("answer(0, 0)").all("count(0) = 1; count(1) = 0; count(5) = 2; undo() = 1; count(1) = 1; count(5) = 1; forget() = 1");
        x.all("count(3) = 0");
        x.go("force(0)").all("count(12) = 0; count(13) = 1; count(14) = 2; count(15) = 0");
    }

    private static void countsFull() {
        Run x = run(39, "LETTERS 8, CHILDREN 6, TOLD 8, LAWS 6, 16 that can be undone, 400 bytes, and no more");
        x.often(9, "letter(1, 1, 1)").often(7, "child(1)").often(9, "told(0, 1)");
        for (int i = 0; i < 6; i++) {
            x.law("bars", i);
        }
        x.go("law()").often(17, "pass()").often(21, "feed(0, 0, 0, 0, 0)").go("force(5); force(6)");
        x.all("count(0) = 8; count(1) = 8; count(2) = 6; count(3) = 8; count(4) = 6; count(5) = 16; count(6) = 400; count(7) = 0");
        x.all("count(8) = 1; count(9) = 0; count(10) = 4; count(11) = 0");
        x.all("count(12) = 5; count(13) = 17").go("terms(0, 999); terms(1, 10); terms(2, 9)").all("count(13) = 999; count(14) = 10");
        x.all("count(15) = 9; count(5) = 0");
    }

    private static void refusalsCounted() {
        Run x = run(39, "how many calls were REFUSED by -1, -2, -3, -5, -6: each by itself, as often as it was");
        x.often(5, "child(0)").often(4, "read(0, 0)").often(3, "undo()").often(6, "child(1)").often(2, "child(1)").often(7, "row()");
        x.all("count(7) = 5; count(8) = 4; count(9) = 3; count(10) = 2; count(11) = 7");

        x = run(39, "(IMAGES do not keep that)");
        x.go("image(0); child(0); read(0, 0); undo(); row(); back(0)").all("count(7) = 1; count(8) = 1; count(9) = 1; count(11) = 1");

        x = run(39, "ORDERS that can't be are one call, whatever they were REFUSED by");
        x.orders("read 0 to 0", -3).orders("lose 8 of 0", -3).orders("lose 0 of 0", -3).all("count(7) = 0; count(8) = 0; count(9) = 3");

        x = run(39, "an undone deed is no refusal that is taken back");
        x.go("letter(1, 1, 0); child(8); read(0, 0); answer(0, 0); undo()").all("count(9) = 1; count(5) = 0");

        x = run(39, "400 calls that were REFUSED");
        x.often(400, "undo()").all("count(9) = 400; count(7) = 0; status() = -3");
    }

    /** Every reason for which each of the calls is REFUSED, in a house where nothing else stands in the way. */
    private static void refusalsOfEach() {
        String[][] cases = {
            {"", "letter(256, 0, 0)", "-1"}, {"", "child(0)", "-1"}, {"", "terms(3, 0)", "-1"}, {"", "row()", "-6"}, {"", "law()", "-6"},
            {"", "orders()", "-6"}, {"", "force(0)", "-2"}, {"", "read(0, 0)", "-2"}, {"", "answer(0, 0)", "-2"}, {"", "lose(8, 0)", "-1"},
            {"", "lose(0, 0)", "-2"}, {"child(1)", "lose(0, 0)", "-3"}, {"terms(0, 999)", "pass()", "-3"}, {"", "undo()", "-3"},
            {"", "told(8, 0)", "-1"}, {"", "schools(-1, 1)", "-1"}, {"", "schools(0, 1)", "-3"}, {"", "image(2)", "-1"},
            {"", "back(2)", "-1"}, {"", "back(0)", "-2"}, {"letter(0, 0, 0); child(1)", "answer(0, 0)", "-3"}};
        for (String[] c : cases) {
            Run x = run(39, "REFUSED by " + c[2] + ": " + c[1]);
            x.go(c[0]).go("image(1)").is("status()", 0).is(c[1], Integer.parseInt(c[2])).is("status()", Integer.parseInt(c[2]));
            int place = "-1 -2 -3 -5 -6".indexOf(c[2]) / 3;
            for (int i = 0; i < 5; i++) {
                x.is("count(" + (7 + i) + ")", i == place ? 1 : 0);
            }
        }
    }

    private static void statusOfEach() {
        Run x = run(40, "0 if it was not, or ahead of any");
        x.quiet("status()", 0).quiet("status()", 0);
        String[] good = {"letter(1, 1, 1)", "child(8)", "terms(0, 0)", "force(-1)", "read(0, 0)", "lose(0, 0)", "pass()", "undo()",
            "answer(0, 0)", "told(0, 1)", "schools(0, 1)", "image(0)", "back(0)"};
        for (int i = 0; i < good.length; i++) {
            x.go("back(2)").is("status()", -1).go(good[i]).is("status()", 0).is("count(7)", 1 + i);
        }
        x.go("back(2)").law("bars", 0).is("status()", 0).go("back(2)").orders("pass", 1).is("status()", 0).go("back(2)").row(1, 1, 1, 1);
        x.is("status()", 0);
        x.go("back(2)").orders("pass if 1=2", 0).is("status()", 0).go("back(2)").row(0, 1).is("status()", 0);

        x = run(40, "What the latest call was REFUSED by: not what an earlier one was");
        x.go("child(0)").is("status()", -1).go("read(0, 0)").is("status()", -2).go("undo()").is("status()", -3).go("row()");
        x.is("status()", -6);
        x.often(6, "child(1)").is("status()", 0).go("child(1)").is("status()", -5).go("child(9)").is("status()", -1).law("", -6);
        x.is("status()", -6);
        x.orders("read 0 to 0", -3).is("status()", -3).orders("read", -6).is("status()", -6);
    }

    private static void statusLeft() {
        String[] others = {"at(9, 9)", "at(0, 0)", "of(9, 9)", "of(0, 0)", "asks(9, 9, 9)", "feed(0, 0, 0, 0, 0)", "end(0)", "end(-1)",
            "blots()", "fault()", "stopped()", "lesson(0, 0, -1)", "lesson(9, 9, 9)", "forget()", "heard(0, -1)", "heard(9, 9)",
            "ask(0, 0)", "ask(9, 9)", "matched(0)", "matched(9)", "together(0, 0)", "together(9, 9)", "clashes(1)", "clashes(0)",
            "later(0, 1)", "later(9, 99)", "likest(0, 0)", "likest(9, 9)", "lost()", "few(1, 1)", "few(0, 0)", "compare(-1)",
            "compare(9)", "drawn(0, 0)", "drawn(9, 9)", "count(0)", "count(99)", "status()"};
        Run x = run(40, "the latest call of those that are named: others leave it, whatever they answer, and are not counted");
        x.go("letter(1, 1, 1); child(8); force(9)");
        for (String call : others) {
            x.go(call).is("status()", -2);
        }
        x.all("count(7) = 0; count(8) = 1; count(9) = 0; count(10) = 0; count(11) = 0").go("force(-1)");
        for (String call : others) {
            x.go(call).is("status()", 0);
        }
        x.all("count(7) = 0; count(8) = 1; count(9) = 0; count(10) = 0; count(11) = 0");
    }
}
