/** Promises 13 and 15: ORDERS as they are run, wholly or not at all, and where they stopped. */
public final class OrdersEdgesTest {
    private static final Checks CHECKS = new Checks();

    private static Run run(int promise, String sentence) {
        return CHECKS.run(promise, sentence);
    }

    public static void main(String[] args) {
        howMany();
        asked();
        done();
        latest();
        open();
        ofChildren();
        cannotBe();
        brokenSums();
        asItWas();
        faultAndCannotBe();
        stopped();
        CHECKS.carried(13, 13);
        CHECKS.carried(15, 15);
        CHECKS.close();
    }

    private static Run small(int promise, String sentence) {
        return run(promise, sentence).go("letter(7, 1, 1); letter(24, 16, 9); letter(1, 2, 0); child(8); child(2)");
    }

    private static void howMany() {
        Run x = run(13, "how many were run: none, once without TIMES, as often as TIMES tell");
        x.put("pass if 1=2").accepted("orders()", 0).put("pass").accepted("orders()", 1).put("pass times 1").accepted("orders()", 1);
        x.put("pass times 20").accepted("orders()", 20).is("count(13)", 22);

        x = run(13, "12 CLAUSES 20 times each");
        x.orders("pass times 20;".repeat(11) + "pass times 20", 240).all("count(13) = 240; count(5) = 16; stopped() = -1");

        x = run(13, "the last LETTER, the last CHILD, the last TRAIT");
        x.often(8, "letter(255, 255, 1)").often(6, "child(8)").orders("read 7 to 5;lose 7 of 5;lose 0 of 5;answer 7 by 5", 4);
        x.all("of(5, 0) = 126; at(7, 3) = 1; of(4, 0) = 0; at(6, 3) = 0");

        x = run(13, "GROWN 99 at most");
        x.go("letter(0, 0, 0); child(8)").orders("read 0 to 0 times 20;".repeat(4) + "read 0 to 0 times 18;pass if grown 0 = 98", 99);
        x.orders("read 0 to 0;pass if grown 0 = 99;read 0 to 0;pass if grown 0 = 99", 4).is("of(0, 2)", 99);

        x = run(13, "the TAPE is empty then: run, stopped, not read");
        x.orders("pass", 1).is("count(6)", 0).orders("lose 0 of 0", -3).is("count(6)", 0).orders("lose", -6).is("count(6)", 0);
    }

    private static void asked() {
        Run x = run(13, "each time its \"if\" is asked");
        x.orders("pass times 20 if day < 1", 1).orders("pass times 20 if day < 20", 19).orders("pass times 20 if day < 20", 0);
        x.is("count(13)", 20);

        x = run(13, "each time its \"if\" is asked: it may be so again");
        x.orders("pass times 3 if done = 1;pass;pass times 3 if done = 1 or done = 2", 3);

        x = run(13, "not run, if it is not so or BROKEN; its SUMS are not asked then");
        x.orders("read 1/0 to 1/0 if 1 = 2;answer 9 by 9 if 1/0 = 1;lose 9 of 9 if 1%0 = 1 or 1=1;pass", 1);
        x.orders("read 9 to 9 if 1000*1000*1000*2 > 0", 0).all("status() = 0; stopped() = -1");

        x = run(13, "its SUMS are asked each time");
        x.go("letter(255, 0, 0); child(8); read(0, 0)").orders("lose done of 0 times 8", 8).is("of(0, 0)", 0);
        x.go("read(0, 0)").orders("lose 8-knows 0 of 0 times 8", 8).is("of(0, 0)", 0);
    }

    private static void done() {
        Run x = run(13, "done: how many were run in this TEXT");
        x.orders("pass if done = 0;pass if done = 1;pass if done = 9;pass if done = 2", 3).orders("pass if done = 0", 1);
        x.orders("pass times 20 if done < 5;pass times 20 if done < 7", 7);
        x.orders("pass times 20;".repeat(11) + "pass times 20 if done < 239", 239);
    }

    private static void latest() {
        Run x = run(13, "latest: what the latest answer in it told (-1: none)");
        x.often(8, "letter(0, 0, 1)").go("child(8)").under("worth letter*33-33");
        x.orders("pass if latest = 0-1;answer 0 by 0;pass if latest = 0;answer 2 by 0;pass if latest = 33", 5);
        x.orders("pass if latest = 0-1;answer 4 by 0;read 0 to 0;pass if latest = 99;answer 1 by 0;pass if latest = 0", 6);
        x.orders("pass if latest = 0-1", 1);

        x = run(13, "latest: one that is not run tells nothing");
        x.go("letter(0, 0, 1); child(8)").under("worth 5").orders("answer 0 by 0 if 1=2;pass if latest = 0-1", 1);

        x = run(13, "latest: not of an answer() ahead of it, nor of ORDERS that could not be");
        x.go("letter(0, 0, 1); letter(0, 0, 1); child(8); answer(0, 0)").orders("pass if latest = 0-1", 1);
        x.orders("answer 1 by 0;answer 1 by 0", -3).orders("pass if latest = 0-1", 1);
    }

    private static void open() {
        Run x = run(13, "open: how many LETTERS are not ANSWERED: none there, all eight, none left");
        x.orders("pass if open = 0", 1).often(8, "letter(0, 0, 1)").go("child(8)").orders("pass if open = 8", 1);
        x.orders("answer 8-open by 0 times 8 if open > 0;pass if open = 0", 9).is("count(1)", 0);
        x.orders("answer 8-open by 0 times 8 if open > 0;pass if open = 0", 1);
    }

    private static void ofChildren() {
        Run x = run(13, "knows, grown: -1 without such a CHILD");
        x.orders("pass if knows 0 = 0-1;pass if grown 0 = 0-1;pass if knows 5 = 0-1;pass if grown 5 = 0-1", 4);
        x.go("letter(255, 0, 0); child(8)");
        x.orders("pass if knows 0 = 0;pass if grown 0 = 0;pass if knows 1 = 0-1;pass if grown 1 = 0-1", 4);
        x.often(4, "child(8)").orders("pass if knows 4 = 0;pass if knows 5 = 0-1;pass if grown 5 = 0-1", 3).go("child(8); read(0, 5)");
        x.orders("pass if knows 5 = 8;pass if grown 5 = 1;pass if knows 4 = 0;pass if grown 4 = 0", 4);

        x = run(13, "knows (how many), grown as they are then");
        x.go("letter(255, 0, 0); child(8); child(3)");
        x.orders("read 0 to 1;pass if knows 1 = 3;lose 0 of 1;pass if knows 1 = 2 and grown 1 = 1", 4);
        x.orders("pass if day = 2;pass if day = 3;terms 0", -6).orders("pass if day = 2;pass if day = 3", 2);
    }

    /** ORDERS that can't be, and how often that is REFUSED by -3 alone. */
    private static void refused(String text) {
        Run x = small(13, "-3 one can't be, as read(), answer(), lose(), pass() are REFUSED");
        x.go("read(0, 0); pass()").refusedText("orders()", "pass;" + text, -3).all("stopped() = 1; fault() = -1; count(13) = 1");
        x.all("count(5) = 2");
    }

    private static void cannotBe() {
        String[] texts = {"read 3 to 0", "read 0 to 2", "read 0-1 to 0", "read 0 to 0-1", "read 3 to 2", "read 1000*1000*1000 to 0",
            "answer 3 by 0", "answer 0 by 2", "answer 0-1 by 0", "answer 0 by 0-1", "answer 2 by 0", "answer 0 by 0 times 2",
            "lose 8 of 0", "lose 0-1 of 0", "lose 0 of 2", "lose 0 of 0-1", "lose 3 of 0", "lose 0 of 1", "lose 0 of 0 times 2"};
        for (String text : texts) {
            refused(text);
        }
        Run x = run(13, "-3 one can't be: at 999");
        x.go("terms(0, 980)").orders("pass times 19", 19).is("count(13)", 999).refusedText("orders()", "pass", -3).is("stopped()", 0);
        x.go("terms(0, 980)").refusedText("orders()", "pass times 20", -3).all("count(13) = 980; stopped() = 0; count(5) = 0");

        x = small(13, "-3 one can't be: BARRED");
        x.under("bars if letter = 1").refusedText("orders()", "answer 0 by 0;answer 1 by 0", -3).all("stopped() = 1; count(1) = 3");
        x.orders("answer 0 by 0", 1);
    }

    private static void brokenSums() {
        String sentence = "One that can't be (a BROKEN SUM)";
        String[] texts = {"read 1/0 to 0", "read 0 to 1/0", "read 1%0 to 0", "answer 1/0 by 0", "answer 0 by 1/0", "lose 1/0 of 0",
            "lose 0 of 1/0", "lose 1000*1000*1000+1 of 0", "lose 0-1000*1000*1000-1 of 0", "read 0 to 256*256*256*256",
            "lose 0 of 256*256*256*256"};
        for (String text : texts) {
            Run x = small(13, sentence).go("read(0, 0)");
            x.refusedText("orders()", "pass;pass;" + text, -3).all("stopped() = 2; count(13) = 0; count(5) = 1");
        }
        Run x = small(13, sentence + ": not, where it is not asked");
        x.orders("pass;read 1/0 to 0 if done = 0", 1);
        x = small(13, sentence + ": at the second time");
        x.go("read(0, 0)").refusedText("orders()", "lose 1/[1-done] of 0 times 2", -3).is("of(0, 0)", 7);
        x.orders("lose 1/[1-done] of 0 times 1", 1);
    }

    private static void asItWas() {
        Run x = small(13, "ends it: all is as it was ahead of it");
        x.go("read(0, 0); lose(1, 0); pass(); answer(1, 0)");
        x.refusedText("orders()", "read 1 to 1 times 3;answer 0 by 0;lose 0 of 0;pass times 20;lose 1 of 0", -3);
        x.all("count(5) = 4; of(0, 0) = 5; of(1, 0) = 0; of(1, 2) = 0; at(0, 3) = 0; at(1, 3) = 1; count(13) = 1");
        x.all("undo() = 1; at(1, 3) = 0; undo() = 3; count(13) = 0; undo() = 2; of(0, 0) = 7; undo() = 0; of(0, 0) = 0; undo() = -3");

        x = small(13, "all is as it was: also of 16 that could be undone");
        x.often(15, "read(2, 1)").go("pass()").refusedText("orders()", "lose 0 of 1;pass times 20;pass times 20;lose 0 of 1", -3);
        x.all("count(5) = 16; undo() = 3; undo() = 0; of(1, 2) = 14").often(13, "undo()").all("of(1, 2) = 1; undo() = 0; of(1, 2) = 0");
        x.all("of(1, 0) = 0; undo() = -3");

        x = small(13, "all is as it was: IMAGES, SCHOOLS, TOLD and refusals are not touched");
        x.go("image(0); told(0, 1); schools(7, 9); read(9, 9)").refusedText("orders()", "read 0 to 0;read 9 to 9", -3);
        x.all("count(8) = 1; count(9) = 1; count(7) = 0; count(3) = 1; back(0) = 0; count(3) = 0");
    }

    private static void faultAndCannotBe() {
        Run x = small(13, "-6: a TEXT that can't be is not run, also not up to its FAULT");
        x.refusedText("orders()", "pass;read 0 to 0;pas", -6).all("count(13) = 0; of(0, 2) = 0; fault() = 17; stopped() = -1");
        x.all("count(5) = 0");
        x.refusedText("orders()", "read 9 to 9;pas", -6).all("count(9) = 0; count(11) = 2; fault() = 12; stopped() = -1");
        x.refusedText("orders()", "pass times 21", -6).refusedText("orders()", "", -6).all("count(13) = 0; count(11) = 4");
    }

    private static void stopped() {
        Run x = run(15, "Which CLAUSE of the latest orders() could not be: the first, the twelfth; NONE");
        x.quiet("stopped()", -1).orders("lose 0 of 0", -3).quiet("stopped()", 0).orders("pass", 1).quiet("stopped()", -1);
        x.orders("pass;".repeat(11) + "lose 0 of 0", -3).quiet("stopped()", 11).orders("pass if 1=2", 0).quiet("stopped()", -1);

        x = run(15, "Which CLAUSE: those that are not run count, and those that are run often");
        x.orders("pass if 1=2;pass times 20;pass if 1/0=1;lose 0 of 0;lose 0 of 0", -3).is("stopped()", 3);
        x.go("terms(0, 997)").orders("pass;pass times 3", -3).is("stopped()", 1);

        x = run(15, "of the latest orders(): other calls leave it, images keep it not");
        x.go("image(0)").orders("pass;lose 0 of 0", -3).law("bars", 0).law("bar", -6);
        x.go("pass(); undo(); lose(0, 0); row(); back(0); force(-1)");
        x.is("stopped()", 1);

        x = run(15, "NONE behind ORDERS that were not read");
        x.orders("pass;lose 0 of 0", -3).is("stopped()", 1).orders("pas", -6).is("stopped()", -1).orders("lose 0 of 0", -3);
        x.is("stopped()", 0).go("orders()").is("stopped()", -1);
    }
}
