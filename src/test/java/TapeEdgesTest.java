/** Promises 8 to 11: the TAPE and ROWS at their edges. */
public final class TapeEdgesTest {
    private static final Checks CHECKS = new Checks();

    private static Run run(int promise, String sentence) {
        return CHECKS.run(promise, sentence);
    }

    public static void main(String[] args) {
        feed();
        feedBytes();
        end();
        endThenFeed();
        rowLengths();
        rowNumbers();
        rowRoom();
        rowRefused();
        blots();
        CHECKS.carried(8, 11);
        CHECKS.close();
    }

    private static void feed() {
        Run x = run(8, "how many it has. NONE, if there would be more than 400");
        for (int i = 1; i <= 20; i++) {
            x.is("feed(0, 0, 0, 0, 0)", 20 * i);
        }
        x.quiet("feed(0, 0, 0, 0, 0)", -1).all("count(6) = 400; end(380) = 380; feed(1, 1, 1, 1, 1) = 400; end(381) = 381");
        x.quiet("feed(1, 1, 1, 1, 1)", -1).all("count(6) = 381; end(380) = 380; feed(1, 1, 1, 1, 1) = 400; end(399) = 399");
        x.all("feed(1, 1, 1, 1, 1) = -1; count(6) = 399");
        x.all("end(0) = 0; feed(1, 1, 1, 1, 1) = 20");

        x = run(8, "one for which there is no room leaves the TAPE as it is");
        x.often(19, "feed(0, 0, 0, 0, 0)").go("end(372); end(3); feed(16908288, 0, 0, 0, 0)").is("count(6)", 23);
        x.often(17, "feed(0, 0, 0, 0, 0)").all("count(6) = 363; feed(0, 0, 0, 0, 0) = 383; feed(-1, -1, -1, -1, -1) = -1; end(6) = 6");
        x.all("row() = 2");
        x.all("at(0, 0) = 0; at(1, 0) = 1; at(1, 1) = 2; at(1, 2) = 0");

        x = run(8, "a TAPE that is full is empty behind row(), law(), orders()");
        String[] calls = {"row()", "law()", "orders()"};
        for (String call : calls) {
            x.often(20, "feed(0, 0, 0, 0, 0)").is("count(6)", 400).go(call).is("count(6)", 0);
        }
    }

    private static void feedBytes() {
        Run x = run(8, "Twenty bytes, four of each number, the highest first");
        x.go("feed(16909060, 84281096, 151653132, 219025168, 286397204); end(18); row()").all("count(0) = 3; blots() = 3");
        x.all("at(0, 0) = 1; at(0, 1) = 2; at(0, 2) = 3; at(1, 0) = 4; at(1, 1) = 5; at(1, 2) = 6; at(2, 0) = 7; at(2, 1) = 8");
        x.all("at(2, 2) = 9");

        x = run(8, "the fifth number's lowest byte is the twentieth");
        x.go("feed(0, 0, 0, 0, 7); feed(150994944, 0, 0, 0, 0); end(21); row()").all("count(0) = 7; at(6, 0) = 0; at(6, 1) = 7");
        x.all("at(6, 2) = 9");

        x = run(8, "the highest and the lowest number, bytes without sign");
        x.go("feed(MAX, MIN, -1, 0, 0); end(12)").all("row() = 1; blots() = 3; at(0, 0) = 255; at(0, 1) = 128; at(0, 2) = 0");
    }

    private static void end() {
        Run x = run(9, "The TAPE has its first n bytes alone: n. NONE, if it has not so many, or n is below 0");
        x.quiet("end(0)", 0).quiet("end(1)", -1).quiet("end(-1)", -1).all("end(MIN) = -1; end(MAX) = -1; count(6) = 0");
        x.go("feed(0, 0, 0, 0, 0)").quiet("end(21)", -1).quiet("end(20)", 20).quiet("end(20)", 20).quiet("end(19)", 19);
        x.quiet("end(20)", -1);
        x.all("count(6) = 19; end(-1) = -1; count(6) = 19; end(1) = 1; end(0) = 0; count(6) = 0; end(1) = -1; row() = -6");

        x = run(9, "of a full TAPE");
        x.often(20, "feed(0, 0, 0, 0, 0)").all("end(401) = -1; end(400) = 400; end(399) = 399; end(400) = -1; count(6) = 399");
    }

    private static void endThenFeed() {
        Run x = run(9, "its first n bytes alone: what comes then stands behind them");
        x.go("feed(16909060, 0, 0, 0, 0); end(1); feed(84281096, 0, 0, 0, 0); end(3)");
        x.all("row() = 1; at(0, 0) = 1; at(0, 1) = 5; at(0, 2) = 6");

        x = run(9, "what was cut off is gone");
        x.go("feed(16909060, 84281096, 0, 0, 0); end(5)").all("row() = 1; blots() = 1").go("feed(0, 0, 0, 0, 0); end(2)");
        x.all("row() = 0; blots() = 1");
        x.put("worth 12").go("end(7); law(); force(0); letter(0, 0, 1); child(1)").all("asks(0, 0, 1) = 1");
    }

    private static void rowOf(int bytes, int letters, int blots) {
        Run x = run(10, "by threes, one within which the TAPE ends is a BLOT, one for which there is no room, too: " + bytes + " bytes");
        x.put(new byte[bytes]).accepted("row()", letters).all("blots() = " + blots + "; count(0) = " + letters + "; count(6) = 0");
    }

    private static void rowLengths() {
        rowOf(1, 0, 1);
        rowOf(2, 0, 1);
        rowOf(3, 1, 0);
        rowOf(4, 1, 1);
        rowOf(5, 1, 1);
        rowOf(6, 2, 0);
        rowOf(23, 7, 1);
        rowOf(24, 8, 0);
        rowOf(25, 8, 1);
        rowOf(26, 8, 1);
        rowOf(27, 8, 1);
        rowOf(28, 8, 2);
        rowOf(399, 8, 125);
        rowOf(400, 8, 126);
    }

    private static void rowNumbers() {
        Run x = run(10, "CONTENT, NEED (bytes without sign), HOUSE 0 .. 9");
        x.row(3, 0, 0, 0, 255, 255, 9, 128, 127, 1).all("blots() = 0; at(0, 0) = 0; at(0, 1) = 0; at(0, 2) = 0");
        x.all("at(1, 0) = 255; at(1, 1) = 255; at(1, 2) = 9; at(2, 0) = 128; at(2, 1) = 127; at(2, 2) = 1; at(2, 3) = 0");

        x = run(10, "one that can't be is a BLOT: none");
        x.row(1, 1, 1, 10, 2, 2, 9, 3, 3, 255, 4, 4, 128, 5, 5, 127).all("blots() = 4; count(0) = 1; at(0, 0) = 2; at(1, 0) = -1");
        x.all("status() = 0; count(7) = 0");

        x = run(10, "they come behind those that are there, one behind the other");
        x.go("letter(1, 1, 1)").row(2, 2, 2, 2, 0, 0, 77, 3, 3, 3).all("at(1, 0) = 2; at(2, 0) = 3; at(3, 0) = -1; blots() = 1");
        x.all("count(1) = 3");
        x.row(0, 1, 1, 11).all("count(0) = 3; blots() = 1");
    }

    private static void rowRoom() {
        Run x = run(10, "one for which there is no room is a BLOT, the row is not REFUSED");
        x.often(7, "letter(1, 1, 1)").put(Checks.bytesOf(2, 2, 2, 3, 3, 3)).accepted("row()", 1).all("blots() = 1; count(0) = 8");
        x.all("at(7, 0) = 2; count(10) = 0");
        x.put(Checks.bytesOf(2, 2, 2)).accepted("row()", 0).all("blots() = 1; count(0) = 8; count(6) = 0; letter(1, 1, 1) = -5");

        x = run(10, "a BLOT takes no room");
        x.often(7, "letter(1, 1, 1)").row(1, 0, 0, 10, 4, 4, 4, 5, 5, 5).all("blots() = 2; at(7, 0) = 4");
    }

    private static void rowRefused() {
        Run x = run(10, "-6 the TAPE is empty");
        x.refused("row()", -6).go("feed(0, 0, 0, 0, 0); end(0)").refused("row()", -6).go("feed(0, 0, 0, 0, 0); end(1)");
        x.accepted("row()", 0);
        x.refused("row()", -6).all("count(11) = 3; count(0) = 0");

        x = run(10, "-6 stands alone, also where there is no room");
        x.often(8, "letter(1, 1, 1)").refused("row()", -6).all("count(10) = 0; count(11) = 1");
    }

    private static void blots() {
        Run x = run(11, "the latest row() that was not REFUSED (0 ahead of any)");
        x.quiet("blots()", 0).go("row()").quiet("blots()", 0).row(0, 1).quiet("blots()", 1).go("row()").quiet("blots()", 1);
        x.row(0, 1, 1, 10, 1, 1, 10, 1).is("blots()", 3).row(1, 1, 1, 1).is("blots()", 0).go("row()").is("blots()", 0);

        x = run(11, "IMAGES keep no BLOTS");
        x.go("image(0)").row(0, 1, 1).go("back(0)").is("blots()", 1);

        x = run(11, "law(), orders() leave it");
        x.row(0, 1).law("wort", -6).orders("pas", -6).law("worth 1", 0).orders("pass", 1).is("blots()", 1);
    }
}
