/** Promises 14 to 31: what is seen. */
public final class SeenTest {
    private static final int NONE = BambooBlind.NONE;
    private static final int NOWHERE = BambooBlind.NOWHERE;

    // Slats of 6, 3 and 2 columns: the last two columns of the first one are open by a seam, both
    // columns of the last one are covered. The left picture has the rows 1 and 2, the right one 5
    // but for two cells.
    private static final String TURNED = "high 2;slat 6;slat 3 right 2;slat 2 left 1;"
            + "box left 0 0 11 1 1;box left 0 1 11 1 2;box right 0 0 11 2 5;box right 2 0 2 1 1;";

    // Slats of 3 and 2 columns, seen whole from -6 and -5, and from 5 and 6.
    private static final String EVEN = "high 2;slat 3;slat 2;box left 0 0 5 2 1;"
            + "box right 0 0 5 2 2;";

    /** A call with an angle. */
    private interface Seen {
        void from(int angle);
    }

    private SeenTest() {
    }

    public static void main(String[] args) {
        seen();
        seenByWidth();
        seenWithSeams();
        why();
        whyOfColours();
        right();
        open();
        covered();
        whole();
        firstWrong();
        shownFrom();
        bestAngle();
        seam();
        run();
        worstSlat();
        ghosts();
        paintable();
        span();
        light();
        meanRight();
        lightest();
        anglesOutOfRange();
        Check.end();
    }

    // Promise 14
    private static void seen() {
        BambooBlind blind = Blinds.of(TURNED);
        Check.same("seen from 6", Blinds.seen(blind, 6), "5511...55||/5555...55||");
        Check.same("seen from 3", Blinds.seen(blind, 3), "...1....5||/...5....5||");
        Check.same("seen from 2", Blinds.seen(blind, 2), ".........||/.........||");
        Check.same("seen from 1", Blinds.seen(blind, 1), "......1..||/......2..||");
        Check.same("seen from 0", Blinds.seen(blind, 0), "......1..||/......2..||");
        Check.same("seen from -1", Blinds.seen(blind, -1), "1.....11.||/2.....22.||");
        Check.same("seen from -6", Blinds.seen(blind, -6), "1111..111||/2222..222||");
        blind.dab(0, true, 1, 1, 0);
        Check.same("colour 0 is seen", blind.seen(6, 1, 1), 0);
        Check.same("open", blind.seen(6, 4, 0), NONE);
        Check.same("covered", blind.seen(6, 9, 0), BambooBlind.COVERED);
        Check.noPlace("seen at column 11", () -> blind.seen(0, 11, 0));
        Check.noPlace("seen at column -1", () -> blind.seen(0, -1, 0));
        Check.noPlace("seen at row 2", () -> blind.seen(0, 0, 2));
        Check.noPlace("seen at row -1", () -> blind.seen(0, 0, -1));
        Check.noPlace("seen at column 11 from 7", () -> blind.seen(7, 11, 0));
        Check.noPlace("seen at row 2 from -7", () -> blind.seen(-7, 0, 2));
        Check.noPlace("seen without columns", () -> new BambooBlind().seen(0, 0, 0));
    }

    private static void seenByWidth() {
        int[] leans = {0, 1, 2, 3, 4, 5, 6};
        int[][] due = {{0, 1, 1, 1, 1, 1, 1}, {0, 1, 1, 1, 2, 2, 2}, {0, 1, 1, 2, 2, 3, 3},
                {0, 1, 2, 2, 3, 4, 4}, {0, 1, 2, 3, 4, 5, 5}, {0, 1, 2, 3, 4, 5, 6}};
        for (int width = 1; width <= 6; width++) {
            BambooBlind blind = Blinds.of("high 1;slat " + width + ";");
            for (int lean : leans) {
                int shown = due[width - 1][lean];
                String open = ".".repeat(width - shown);
                String seen = "0".repeat(shown);
                Check.same("from the right " + width, Blinds.seen(blind, lean), open + seen);
                Check.same("from the left " + width, Blinds.seen(blind, -lean), seen + open);
            }
        }
        BambooBlind blind = Blinds.of("high 1;slat 6 left 4;box right 0 0 6 1 3;");
        Check.same("lean of 10 is 6", Blinds.seen(blind, 6), "333333");
        Check.same("lean of 2", Blinds.seen(blind, -2), "....33");
        Check.same("lean of -2", Blinds.seen(blind, -6), "00....");
        blind.turn(0, 4);
        Check.same("lean of -10 is -6", Blinds.seen(blind, -6), "000000");
    }

    private static void seenWithSeams() {
        BambooBlind both = Blinds.of("high 1;slat 1 right 1;slat 1;slat 1 right 1;");
        Check.same("covered before open", Blinds.seen(both, 6), "0|0");
        BambooBlind more = Blinds.of("high 1;slat 3 right 1;slat 3 left 1;slat 3;");
        Check.same("two covered and one open", Blinds.seen(more, 6), "000||.000");
        Check.same("from the other side", Blinds.seen(more, -6), "000||.000");
        BambooBlind most = Blinds.of("high 1;slat 2 left 4;slat 2 right 4;slat 3;");
        Check.same("8 of 2 are open, 4 of 3 covered", Blinds.seen(most, -6), "..00|||");
    }

    // Promise 15
    private static void why() {
        BambooBlind blind = Blinds.of(TURNED);
        Check.same("it is right", blind.why(6, true, 0, 0), 0);
        Check.same("covered", blind.why(6, true, 9, 0), 1);
        Check.same("covered before open", blind.why(-1, false, 10, 1), 1);
        Check.same("open by a seam", blind.why(6, true, 4, 0), 2);
        Check.same("open by a seam before by the lean", blind.why(0, true, 5, 1), 2);
        Check.same("open by the lean", blind.why(6, true, 6, 0), 3);
        Check.same("open with lean 0", blind.why(0, false, 0, 0), 3);
        Check.same("the other face", blind.why(6, false, 0, 0), 4);
        Check.same("the other face from the left", blind.why(-6, true, 0, 0), 4);
        Check.same("the right colour of the other face", blind.why(6, false, 2, 0), 0);
        Check.same("the right colour from the left", blind.why(-6, true, 3, 0), 0);
        BambooBlind both = Blinds.of("high 1;slat 1 right 1;slat 1;slat 1 right 1;");
        Check.same("covered before open by a seam", both.why(6, true, 1, 0), 1);
        Check.noPlace("why at column 11", () -> blind.why(0, true, 11, 0));
        Check.noPlace("why at column -1", () -> blind.why(0, true, -1, 0));
        Check.noPlace("why at row 2", () -> blind.why(0, true, 0, 2));
        Check.noPlace("why at row -1", () -> blind.why(0, true, 0, -1));
        Check.noPlace("why at row 2 from 7", () -> blind.why(7, true, 0, 2));
    }

    private static void whyOfColours() {
        BambooBlind blind = Blinds.of(EVEN);
        blind.dab(0, true, 0, 0, 9);
        blind.dab(0, true, 1, 0, 1);
        Check.same("another colour", blind.why(6, true, 0, 0), 5);
        Check.same("another colour of the other face", blind.why(6, false, 0, 0), 4);
        Check.same("the colour of the other picture", blind.why(6, true, 1, 0), 5);
        Check.same("right on the other face", blind.why(6, false, 1, 0), 0);
        blind.dab(1, false, 1, 1, 0);
        Check.same("another colour from the left", blind.why(-6, false, 4, 1), 5);
        blind.spot(true, 2, 1, 7);
        Check.same("another picture", blind.why(6, true, 2, 1), 5);
        Check.same("another picture with lean 1", blind.why(1, true, 2, 1), 5);
        Check.same("the other face with lean 1", blind.why(1, false, 2, 1), 4);
        Check.same("the other face with lean -1", blind.why(-1, true, 0, 0), 4);
        blind.dab(0, false, 0, 0, 9);
        Check.same("another colour with lean -1", blind.why(-1, false, 0, 0), 5);
    }

    // Promise 16
    private static void right() {
        BambooBlind blind = Blinds.of(TURNED);
        Check.same("right from 6", blind.right(6, true), 12);
        Check.same("left from 6", blind.right(6, false), 2);
        Check.same("right from 3", blind.right(3, true), 4);
        Check.same("right from 2", blind.right(2, true), 0);
        Check.same("left from 0", blind.right(0, false), 2);
        Check.same("left from -6", blind.right(-6, false), 14);
        Check.same("right from -6", blind.right(-6, true), 2);
        blind.dab(0, false, 0, 0, 5);
        Check.same("one less", blind.right(-6, false), 13);
        Check.same("one more", blind.right(-6, true), 3);
        Check.same("right without columns", new BambooBlind().right(6, true), 0);
    }

    // Promise 17
    private static void open() {
        BambooBlind blind = Blinds.of(TURNED);
        Check.same("open from 6", blind.open(6), 6);
        Check.same("open from 2", blind.open(2), 18);
        Check.same("open from 0", blind.open(0), 16);
        Check.same("open from -6", blind.open(-6), 4);
        Check.same("open with no seam", Blinds.of(EVEN).open(5), 0);
        Check.same("open without columns", new BambooBlind().open(0), 0);
    }

    // Promise 18
    private static void covered() {
        BambooBlind blind = Blinds.of(TURNED);
        Check.same("covered from 6", blind.covered(6), 4);
        Check.same("covered from -1", blind.covered(-1), 4);
        blind.turn(2, 1);
        Check.same("one column is covered", blind.covered(0), 2);
        blind.turn(2, 2);
        Check.same("none is covered", blind.covered(0), 0);
        Check.same("covered without columns", new BambooBlind().covered(0), 0);
    }

    // Promise 19
    private static void whole() {
        BambooBlind blind = Blinds.of(EVEN);
        int[] due = {1, 1, 0, 0, 0, 0, 0, 0, 0, 0, 0, 2, 2};
        for (int angle = -6; angle <= 6; angle++) {
            Check.same("whole from " + angle, blind.whole(angle), due[angle + 6]);
        }
        blind.dab(1, true, 1, 1, 9);
        Check.same("not whole with a dab", blind.whole(6), 0);
        Check.same("both are whole", Blinds.of("slat 3;slat 2;").whole(6), 3);
        Check.same("nothing is whole", Blinds.of("slat 3;slat 2;").whole(4), 0);
        Check.same("whole without columns", new BambooBlind().whole(6), 0);
        BambooBlind turned = Blinds.of("high 1;slat 1;slat 1 right 1;");
        Check.same("not whole by a seam", turned.whole(6), 0);
    }

    // Promise 20
    private static void firstWrong() {
        BambooBlind blind = Blinds.of(EVEN);
        Check.same("none is wrong", blind.firstWrong(6, true), NONE);
        Check.same("all are wrong", blind.firstWrong(6, false), 0);
        Check.same("the first is open", blind.firstWrong(4, true), 0);
        blind.dab(1, true, 1, 1, 9);
        Check.same("the last is wrong", blind.firstWrong(6, true), 9);
        blind.dab(0, true, 0, 1, 9);
        Check.same("the first of row 1", blind.firstWrong(6, true), 5);
        blind.dab(1, true, 0, 0, 9);
        Check.same("row 0 before row 1", blind.firstWrong(6, true), 3);
        Check.same("the first is open by a seam", Blinds.of(TURNED).firstWrong(6, true), 4);
        Check.same("wrong without columns", new BambooBlind().firstWrong(6, true), NONE);
    }

    // Promise 21
    private static void shownFrom() {
        BambooBlind blind = Blinds.of(TURNED);
        Check.same("shown at column 0", blind.shownFrom(0), 63 + 4096);
        Check.same("open at column 4", blind.shownFrom(4), 0);
        Check.same("shown at column 8", blind.shownFrom(8), 15 + 512 + 1024 + 2048 + 4096);
        Check.same("covered at column 9", blind.shownFrom(9), 0);
        Check.same("shown of one column", Blinds.of("slat 1 left 4;").shownFrom(0), 8191 - 4);
        Check.noPlace("shown at column 11", () -> blind.shownFrom(11));
        Check.noPlace("shown at column -1", () -> blind.shownFrom(-1));
    }

    // Promise 22
    private static void bestAngle() {
        BambooBlind blind = Blinds.of(TURNED);
        Check.same("best for the right picture", blind.bestAngle(true), 6);
        Check.same("best for the left picture", blind.bestAngle(false), -6);
        Check.same("the lowest of two", Blinds.of(EVEN).bestAngle(true), 5);
        BambooBlind wrong = Blinds.of("high 1;slat 1;");
        wrong.dab(0, false, 0, 0, 9);
        wrong.dab(0, true, 0, 0, 9);
        Check.same("the lowest of all", wrong.bestAngle(true), -6);
        Check.same("best of one column", Blinds.of("slat 1;").bestAngle(true), -6);
        Check.same("best without columns", new BambooBlind().bestAngle(false), NOWHERE);
    }

    // Promise 23
    private static void seam() {
        BambooBlind blind = Blinds.of(TURNED);
        Check.same("seam 0", blind.seam(0), -2);
        Check.same("seam 1, more than there are", blind.seam(1), 3);
        Check.same("the last seam", blind.seam(2), 0);
        blind.turn(0, 2);
        Check.same("seam of like turns", blind.seam(0), 0);
        BambooBlind most = Blinds.of("slat 1 right 4;slat 1 left 4;slat 1 right 4;");
        Check.same("the most", most.seam(0), 8);
        Check.same("the least", most.seam(1), -8);
        Check.noPlace("seam 3", () -> blind.seam(3));
        Check.noPlace("seam -1", () -> blind.seam(-1));
    }

    // Promise 24
    private static void run() {
        BambooBlind blind = Blinds.of(TURNED);
        Check.same("run from 6", blind.run(6), 4);
        Check.same("run from 2", blind.run(2), 0);
        Check.same("run from -1", blind.run(-1), 2);
        BambooBlind even = Blinds.of(EVEN);
        Check.same("run over all", even.run(6), 5);
        Check.same("run of both slats", even.run(4), 4);
        Check.same("run of one column", even.run(1), 1);
        Check.same("run of open columns", even.run(0), 0);
        Check.same("run at the end", Blinds.of("high 1;slat 2;slat 6;").run(2), 2);
    }

    // Promise 25
    private static void worstSlat() {
        BambooBlind blind = Blinds.of(TURNED);
        Check.same("the lowest of two", blind.worstSlat(6, true), 0);
        Check.same("from the left", blind.worstSlat(-6, true), 0);
        blind.dab(1, true, 1, 0, 9);
        blind.dab(1, true, 2, 0, 9);
        blind.dab(1, true, 2, 1, 9);
        Check.same("dabs make it worse", blind.worstSlat(6, true), 1);
        BambooBlind even = Blinds.of(EVEN);
        Check.same("all are right", even.worstSlat(6, true), NONE);
        even.dab(1, true, 1, 1, 9);
        Check.same("one cell is wrong", even.worstSlat(6, true), 1);
        even.dab(0, true, 1, 1, 9);
        Check.same("one cell each", even.worstSlat(6, true), 0);
        Check.same("worst without columns", new BambooBlind().worstSlat(6, true), NONE);
    }

    // Promise 26
    private static void ghosts() {
        BambooBlind blind = Blinds.of(TURNED);
        Check.same("ghosts of the right picture", blind.ghosts(6, false), 10);
        Check.same("no ghosts", blind.ghosts(6, true), 0);
        Check.same("ghosts of the left picture", blind.ghosts(-6, true), 12);
        blind.dab(0, false, 0, 0, 9);
        Check.same("another colour is no ghost", blind.ghosts(-6, true), 11);
        blind.dab(0, true, 3, 1, 2);
        Check.same("a ghost on its own face", blind.ghosts(6, true), 1);
        Check.same("no ghosts without a picture", Blinds.of("slat 6;").ghosts(6, true), 0);
    }

    // Promise 27
    private static void paintable() {
        BambooBlind blind = Blinds.of("coats 2;slat 1;slat 2;slat 3;box left 0 0 6 4 1;");
        Check.same("nothing to paint", blind.paintable(false), 0);
        blind.dab(0, false, 0, 3, 9);
        blind.dab(2, false, 2, 0, 9);
        blind.dab(2, false, 1, 0, 9);
        blind.dab(1, true, 1, 1, 9);
        Check.same("left faces to paint", blind.paintable(false), 1 + 4);
        Check.same("right faces to paint", blind.paintable(true), 2);
        blind.paint(2, false);
        Check.same("a face was painted", blind.paintable(false), 1);
        blind.dab(2, false, 2, 0, 9);
        Check.same("it bears no more coats", blind.paintable(false), 1);
        blind.spot(true, 5, 3, 4);
        Check.same("a spot is to be painted", blind.paintable(true), 2 + 4);
        BambooBlind one = Blinds.of("coats 1;slat 1;");
        one.dab(0, true, 0, 0, 9);
        Check.same("one coat is all", one.paintable(true), 0);
    }

    // Promise 28
    private static void span() {
        BambooBlind blind = Blinds.of(EVEN);
        Check.same("span of the right picture", blind.span(true), 2);
        Check.same("span of the left picture", blind.span(false), 2);
        blind.turn(0, -1);
        blind.turn(1, -1);
        Check.same("span of turned slats", blind.span(true), 3);
        Check.same("span of the other picture", blind.span(false), 1);
        Check.same("the longer one", Blinds.of("slat 1 right 2;").span(true), 8);
        Check.same("the latter one", Blinds.of("slat 1 left 3;").span(true), 9);
        Check.same("span of none", Blinds.of(TURNED).span(true), 0);
        Check.same("span without columns", new BambooBlind().span(true), 0);
    }

    // Promise 29
    private static void light() {
        BambooBlind blind = Blinds.of(TURNED);
        Check.same("light from 6", blind.light(6), 6.0f / 22.0f);
        Check.same("light from 2", blind.light(2), 18.0f / 22.0f);
        Check.same("light of all", Blinds.of("slat 5;").light(0), 1.0f);
        Check.same("light of none", Blinds.of("slat 5;").light(6), 0.0f);
        Check.same("light without columns", new BambooBlind().light(0), 0.0f);
    }

    // Promise 30
    private static void meanRight() {
        BambooBlind blind = Blinds.of(EVEN);
        Check.same("mean of the right picture", blind.meanRight(true), 42 / 13.0);
        Check.same("mean of the left picture", blind.meanRight(false), 42 / 13.0);
        blind.dab(1, true, 1, 1, 9);
        Check.same("mean with a dab", blind.meanRight(true), 36 / 13.0);
        Check.same("mean without columns", new BambooBlind().meanRight(true), 0.0);
        Check.same("mean of the same picture", Blinds.of("high 1;slat 1;").meanRight(true),
                12 / 13.0);
    }

    // Promise 31
    private static void lightest() {
        Check.same("lightest", Blinds.of(TURNED).lightest(), 2);
        Check.same("lightest of like turns", Blinds.of(EVEN).lightest(), 0);
        Check.same("the lowest of several",
                Blinds.of("high 1;slat 1 right 1;slat 3 left 1;").lightest(), -5);
        Check.same("lightest of one column", Blinds.of("slat 1 left 4;").lightest(), -4);
        Check.same("lightest without columns", new BambooBlind().lightest(), NOWHERE);
    }

    private static void anglesOutOfRange() {
        BambooBlind blind = Blinds.of(EVEN);
        refused("seen", angle -> blind.seen(angle, 0, 0));
        refused("why", angle -> blind.why(angle, true, 0, 0));
        refused("right", angle -> blind.right(angle, true));
        refused("open", blind::open);
        refused("covered", blind::covered);
        refused("whole", blind::whole);
        refused("firstWrong", angle -> blind.firstWrong(angle, true));
        refused("run", blind::run);
        refused("worstSlat", angle -> blind.worstSlat(angle, true));
        refused("ghosts", angle -> blind.ghosts(angle, true));
        refused("light", blind::light);
        BambooBlind none = new BambooBlind();
        refused("right without columns", angle -> none.right(angle, true));
        refused("light without columns", none::light);
        refused("worstSlat without columns", angle -> none.worstSlat(angle, true));
    }

    private static void refused(String what, Seen seen) {
        Check.noValue(what + " from 7", () -> seen.from(7));
        Check.noValue(what + " from -7", () -> seen.from(-7));
        Check.noValue(what + " from the lowest", () -> seen.from(Integer.MIN_VALUE));
        Check.noValue(what + " from the highest", () -> seen.from(Integer.MAX_VALUE));
    }
}
