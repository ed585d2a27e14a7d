/**
 * The bounds of what is seen: "What is seen" of the terms, and promises 14 to 31. The sentence that
 * a test stands for is told above it.
 */
public final class SeenBoundsTest {
    private static final int NONE = BambooBlind.NONE;
    private static final int COVERED = BambooBlind.COVERED;
    private static final int NOWHERE = BambooBlind.NOWHERE;
    private static final int[] FAR = {-1, Integer.MIN_VALUE, Integer.MAX_VALUE};

    // Seen whole from -6 and -5, and from 5 and 6.
    private static final String EVEN = "high 2;slat 3;slat 2;box left 0 0 5 2 1;"
            + "box right 0 0 5 2 2;";
    private static final String LARGEST = "high 8;" + "slat 6;".repeat(10)
            + "box left 0 0 60 8 1;box right 0 0 60 8 2;";
    // Seen whole, for both pictures, from each angle but 0.
    private static final String ONE = "high 1;slat 1;";

    /** A question with an angle. */
    private interface Question {
        void ask(BambooBlind blind, int angle);
    }

    private SeenBoundsTest() {
    }

    public static void main(String[] args) {
        anglesOfCells();
        anglesOfCounts();
        anglesWithoutColumns();
        cellsRefused();
        cellsBeforeAngles();
        columnsRefused();
        slatsRefused();
        leanBeyondSix();
        leanOfZero();
        columnsByLean();
        seamsThatCover();
        seamsThatOpen();
        seamsOfTheEnds();
        coveredBeforeOpen();
        openBySeamBeforeLean();
        seenColours();
        whyInOrder();
        whyOfColours();
        whyOfEachSlat();
        right();
        open();
        covered();
        wholeOfOne();
        wholeWithoutColumns();
        firstWrong();
        firstWrongOfARowOrColumn();
        shownFrom();
        bestAngle();
        seam();
        run();
        worstSlat();
        ghosts();
        paintableCoats();
        paintableSlats();
        span();
        light();
        meanRight();
        lightest();
        askingChangesNothing();
        Check.end();
    }

    // "A parameter angle is -6 to 6; otherwise IllegalArgumentException is thrown"
    private static void anglesOfCells() {
        angles("seen", (blind, angle) -> blind.seen(angle, 0, 0));
        angles("seen at the last cell", (blind, angle) -> blind.seen(angle, 2, 1));
        angles("why", (blind, angle) -> blind.why(angle, true, 0, 0));
        angles("why of the left picture", (blind, angle) -> blind.why(angle, false, 2, 1));
    }

    private static void anglesOfCounts() {
        angles("right", (blind, angle) -> blind.right(angle, true));
        angles("right of the left picture", (blind, angle) -> blind.right(angle, false));
        angles("open", BambooBlind::open);
        angles("covered", BambooBlind::covered);
        angles("whole", BambooBlind::whole);
        angles("firstWrong", (blind, angle) -> blind.firstWrong(angle, true));
        angles("run", BambooBlind::run);
        angles("worstSlat", (blind, angle) -> blind.worstSlat(angle, false));
        angles("ghosts", (blind, angle) -> blind.ghosts(angle, true));
        angles("light", BambooBlind::light);
    }

    private static void angles(String what, Question question) {
        for (int angle : new int[] {-7, 7, Integer.MIN_VALUE, Integer.MAX_VALUE}) {
            Twins.noValue(what + " from " + angle, Twins::used,
                    blind -> question.ask(blind, angle));
        }
        for (int angle : new int[] {-6, 6}) {
            BambooBlind blind = Twins.used();
            Check.same(what + " from " + angle,
                    Check.thrownBy(() -> question.ask(blind, angle)), "nothing");
        }
    }

    private static void anglesWithoutColumns() {
        anglesOfNothing("right", (blind, angle) -> blind.right(angle, true));
        anglesOfNothing("open", BambooBlind::open);
        anglesOfNothing("covered", BambooBlind::covered);
        anglesOfNothing("whole", BambooBlind::whole);
        anglesOfNothing("firstWrong", (blind, angle) -> blind.firstWrong(angle, true));
        anglesOfNothing("run", BambooBlind::run);
        anglesOfNothing("worstSlat", (blind, angle) -> blind.worstSlat(angle, false));
        anglesOfNothing("ghosts", (blind, angle) -> blind.ghosts(angle, true));
        anglesOfNothing("light", BambooBlind::light);
    }

    private static void anglesOfNothing(String what, Question question) {
        BambooBlind blind = new BambooBlind();
        Check.noValue(what + " of nothing from 7", () -> question.ask(blind, 7));
        Check.noValue(what + " of nothing from -7", () -> question.ask(blind, -7));
        Check.same(what + " of nothing from 6",
                Check.thrownBy(() -> question.ask(blind, 6)), "nothing");
    }

    // "The parameters [...] column and row are numbers of existing ones"
    private static void cellsRefused() {
        for (int far : FAR) {
            Twins.noPlace("seen at column " + far, Twins::used, blind -> blind.seen(0, far, 0));
            Twins.noPlace("seen at row " + far, Twins::used, blind -> blind.seen(0, 0, far));
            Twins.noPlace("why at column " + far, Twins::used,
                    blind -> blind.why(0, true, far, 0));
            Twins.noPlace("why at row " + far, Twins::used, blind -> blind.why(0, true, 0, far));
        }
        Twins.noPlace("seen at column 3", Twins::used, blind -> blind.seen(0, 3, 0));
        Twins.noPlace("seen at row 2", Twins::used, blind -> blind.seen(0, 0, 2));
        Twins.noPlace("why at column 3", Twins::used, blind -> blind.why(0, false, 3, 0));
        Twins.noPlace("why at row 2", Twins::used, blind -> blind.why(0, false, 0, 2));
        Twins.noPlace("seen of nothing", BambooBlind::new, blind -> blind.seen(0, 0, 0));
        Twins.noPlace("why of nothing", BambooBlind::new, blind -> blind.why(0, true, 0, 0));
        BambooBlind largest = Blinds.of(LARGEST);
        Check.same("the last cell", largest.seen(6, 59, 7), 2);
        Check.noPlace("behind the last column", () -> largest.seen(6, 60, 7));
        Check.noPlace("below the last row", () -> largest.seen(6, 59, 8));
    }

    // "IllegalArgumentException is thrown, behind IndexOutOfBoundsException"
    private static void cellsBeforeAngles() {
        Twins.noPlace("seen at column 3 from 7", Twins::used, blind -> blind.seen(7, 3, 0));
        Twins.noPlace("seen at row -1 from -7", Twins::used, blind -> blind.seen(-7, 0, -1));
        Twins.noPlace("why at column -1 from 7", Twins::used,
                blind -> blind.why(7, true, -1, 0));
        Twins.noPlace("why at row 2 from -7", Twins::used, blind -> blind.why(-7, true, 0, 2));
        Twins.noPlace("seen of nothing from 7", BambooBlind::new, blind -> blind.seen(7, 0, 0));
    }

    private static void columnsRefused() {
        for (int far : FAR) {
            Twins.noPlace("shownFrom " + far, Twins::used, blind -> blind.shownFrom(far));
        }
        Twins.noPlace("shownFrom 3", Twins::used, blind -> blind.shownFrom(3));
        Twins.noPlace("shownFrom of nothing", BambooBlind::new, blind -> blind.shownFrom(0));
        Check.same("the last column", Blinds.of(LARGEST).shownFrom(59), 8064 + 1);
        Check.noPlace("behind the last column", () -> Blinds.of(LARGEST).shownFrom(60));
    }

    private static void slatsRefused() {
        for (int far : FAR) {
            Twins.noPlace("seam " + far, Twins::used, blind -> blind.seam(far));
        }
        Twins.noPlace("seam 2", Twins::used, blind -> blind.seam(2));
        Twins.noPlace("seam of nothing", BambooBlind::new, blind -> blind.seam(0));
        Check.same("the last slat", Blinds.of(LARGEST).seam(9), 0);
        Check.noPlace("behind the last slat", () -> Blinds.of(LARGEST).seam(10));
    }

    // "The lean of a slat is the angle less its turn, but at least -6 and at most 6."
    private static void leanBeyondSix() {
        for (int width = 1; width <= 6; width++) {
            for (int turn = 0; turn <= 4; turn++) {
                BambooBlind left = Blinds.of("high 1;slat " + width + " left " + turn + ";"
                        + "box left 0 0 6 1 1;box right 0 0 6 1 2;");
                Check.same("from 6, to the left " + turn, Blinds.seen(left, 6), "2".repeat(width));
                BambooBlind right = Blinds.of("high 1;slat " + width + " right " + turn + ";"
                        + "box left 0 0 6 1 1;box right 0 0 6 1 2;");
                Check.same("from -6, to the right " + turn, Blinds.seen(right, -6),
                        "1".repeat(width));
            }
        }
    }

    // "with 0 none of both"
    private static void leanOfZero() {
        for (int turn = -4; turn <= 4; turn++) {
            BambooBlind blind = Blinds.of("high 1;slat 6;box left 0 0 6 1 1;box right 0 0 6 1 2;");
            blind.turn(0, turn);
            Check.same("with lean 0", Blinds.seen(blind, turn), "......");
            Check.same("with lean 1", Blinds.seen(blind, turn + 1), ".....2");
            Check.same("with lean -1", Blinds.seen(blind, turn - 1), "1.....");
        }
    }

    // "(w * lean without sign + 5) / 6, rounded down, are shown: of the right face the last ones,
    // of the left face the first ones; the others are open"
    private static void columnsByLean() {
        for (int width = 1; width <= 6; width++) {
            BambooBlind blind = Blinds.of("high 1;slat " + width
                    + ";box left 0 0 6 1 1;box right 0 0 6 1 2;");
            for (int lean = 0; lean <= 6; lean++) {
                // The least number that is not below a part of the width.
                int shown = 0;
                while (6 * shown < width * lean) {
                    shown++;
                }
                String open = ".".repeat(width - shown);
                Check.same("right face, lean " + lean, Blinds.seen(blind, lean),
                        open + "2".repeat(shown));
                Check.same("left face, lean " + lean, Blinds.seen(blind, -lean),
                        "1".repeat(shown) + open);
            }
        }
    }

    // "above 0 so many columns of the next one (from its first one on, at most all) are covered"
    private static void seamsThatCover() {
        for (int width = 1; width <= 6; width++) {
            for (int difference = 0; difference <= 8; difference++) {
                BambooBlind blind = Blinds.of("high 1;slat 2;slat " + width + ";slat 1;");
                int turn = difference > 4 ? difference - 4 : 0;
                blind.turn(0, turn);
                blind.turn(1, turn - difference);
                blind.turn(2, turn - difference);
                int due = Math.min(width, difference);
                for (int angle = -6; angle <= 6; angle++) {
                    String seen = Blinds.seen(blind, angle);
                    Check.same("covered by " + difference,
                            seen.substring(2, 2 + due), "|".repeat(due));
                    Check.same("the first slat and behind it: " + difference,
                            (seen.substring(0, 2) + seen.substring(2 + due)).indexOf('|'), -1);
                    Check.same("cells covered by " + difference, blind.covered(angle), due);
                }
            }
        }
    }

    // "below 0 so many columns (without sign) of the first one (from its last one on, at most all)
    // are open"
    private static void seamsThatOpen() {
        for (int width = 1; width <= 6; width++) {
            for (int difference = 0; difference <= 8; difference++) {
                BambooBlind blind = Blinds.of("high 1;slat 1;slat " + width + ";slat 2;");
                int turn = difference > 4 ? 4 - difference : 0;
                blind.turn(0, turn);
                blind.turn(1, turn);
                blind.turn(2, turn + difference);
                int due = Math.min(width, difference);
                for (int angle = -6; angle <= 6; angle++) {
                    for (int column = 0; column < 3 + width; column++) {
                        boolean isDue = column <= width && column > width - due;
                        Check.same("open by a seam of " + difference,
                                blind.why(angle, true, column, 0) == 2, isDue);
                    }
                }
            }
        }
    }

    // "between a slat and the next one": none before the first one, none behind the last one.
    private static void seamsOfTheEnds() {
        for (int turn = -4; turn <= 4; turn++) {
            BambooBlind blind = Blinds.of(ONE);
            blind.turn(0, turn);
            for (int angle = -6; angle <= 6; angle++) {
                Check.same("one slat is never covered", blind.covered(angle), 0);
                Check.same("it is open by the lean alone", blind.open(angle),
                        angle == turn ? 1 : 0);
            }
        }
    }

    // "A column is covered if it is by a seam; otherwise it is open if it is by a seam"
    private static void coveredBeforeOpen() {
        BambooBlind blind = Blinds.of("high 1;slat 1 right 2;slat 3;slat 1 right 2;");
        for (int angle = -6; angle <= 6; angle++) {
            Check.same("two are covered", blind.seen(angle, 1, 0), COVERED);
            Check.same("the second of them, too", blind.seen(angle, 2, 0), COVERED);
            Check.same("the last one is open", blind.seen(angle, 3, 0), NONE);
            Check.same("covered cells", blind.covered(angle), 2);
            Check.same("why it is covered", blind.why(angle, true, 2, 0), 1);
            Check.same("why it is open", blind.why(angle, true, 3, 0), 2);
        }
    }

    // "otherwise it is open if it is by a seam or by the lean; otherwise it is shown"
    private static void openBySeamBeforeLean() {
        BambooBlind blind = Blinds.of("high 1;slat 3;slat 1 right 1;");
        Check.same("open by both", blind.why(0, true, 2, 0), 2);
        Check.same("open by the seam alone", blind.why(6, true, 2, 0), 2);
        Check.same("open by the lean alone", blind.why(0, true, 1, 0), 3);
        Check.same("shown", blind.why(6, true, 1, 0), 0);
        Check.same("open by both once", blind.open(0), 3);
    }

    // Promise 14: "its colour, NONE if it is open, COVERED if it is covered"
    private static void seenColours() {
        for (int colour = 0; colour <= 9; colour++) {
            BambooBlind blind = Blinds.of("high 8;slat 1;slat 1 left 1;");
            blind.dab(0, true, 0, 7, colour);
            blind.dab(0, false, 0, 0, colour);
            Check.same("a colour of the right face", blind.seen(6, 0, 7), colour);
            Check.same("a colour of the left face", blind.seen(-6, 0, 0), colour);
            Check.same("an open cell", blind.seen(0, 0, 7), NONE);
            Check.same("a covered cell", blind.seen(0, 1, 7), COVERED);
        }
    }

    // Promise 15: "the first one that applies"
    private static void whyInOrder() {
        BambooBlind blind = Blinds.of("high 1;slat 1 right 1;slat 1;slat 2 right 1;"
                + "box left 0 0 9 1 1;box right 0 0 9 1 2;");
        Check.same("covered, open by a seam and by the lean", blind.why(0, true, 1, 0), 1);
        Check.same("covered, and by the other face", blind.why(-6, true, 1, 0), 1);
        Check.same("open by the lean", blind.why(1, true, 0, 0), 3);
        Check.same("open by the lean of the other face", blind.why(-1, true, 3, 0), 3);
        Check.same("the other face", blind.why(-1, true, 2, 0), 4);
        Check.same("it is right", blind.why(-1, false, 2, 0), 0);
        blind.dab(2, true, 1, 0, 7);
        Check.same("another colour", blind.why(6, true, 3, 0), 5);
        Check.same("another colour of the other face", blind.why(6, false, 3, 0), 4);
    }

    // Promise 15: "4 only if the colour is not right"
    private static void whyOfColours() {
        BambooBlind blind = Blinds.of(EVEN);
        blind.dab(1, true, 1, 1, 1);
        blind.dab(0, false, 0, 0, 2);
        Check.same("right by the right face", blind.why(6, false, 4, 1), 0);
        Check.same("not right by its own", blind.why(6, true, 4, 1), 5);
        Check.same("right by the left face", blind.why(-6, true, 0, 0), 0);
        Check.same("not right by its own left one", blind.why(-6, false, 0, 0), 5);
        Check.same("colour 0 is right, too", Blinds.of(ONE).why(6, false, 0, 0), 0);
        BambooBlind near = Blinds.of(EVEN);
        near.dab(0, true, 2, 0, 9);
        near.dab(0, false, 0, 0, 9);
        Check.same("its own face with lean 1", near.why(1, true, 2, 0), 5);
        Check.same("the other face with lean 1", near.why(1, false, 2, 0), 4);
        Check.same("its own face with lean -1", near.why(-1, false, 0, 0), 5);
        Check.same("the other face with lean -1", near.why(-1, true, 0, 0), 4);
    }

    // From one angle the left face of a slat is seen, and the right face of another one.
    private static void whyOfEachSlat() {
        BambooBlind blind = Blinds.of("high 2;slat 6 right 1;slat 6 left 1;box left 0 0 12 2 1;"
                + "box right 0 0 12 2 2;");
        Check.same("both faces", Blinds.seen(blind, 0), "1.....||...2/1.....||...2");
        Check.same("the left face of slat 0", blind.why(0, false, 0, 1), 0);
        Check.same("the right face of slat 1", blind.why(0, true, 11, 1), 0);
        Check.same("not its right face", blind.why(0, true, 0, 1), 4);
        Check.same("not its left face", blind.why(0, false, 11, 1), 4);
        for (int row = 0; row < 2; row++) {
            blind.dab(0, false, 0, row, 9);
            blind.dab(1, true, 5, row, 9);
            Check.same("its own face at column 0", blind.why(0, false, 0, row), 5);
            Check.same("the other face at column 0", blind.why(0, true, 0, row), 4);
            Check.same("its own face at column 11", blind.why(0, true, 11, row), 5);
            Check.same("the other face at column 11", blind.why(0, false, 11, row), 4);
        }
    }

    // Promise 16: "the cells that are seen right for a picture"
    private static void right() {
        Check.same("of nothing", new BambooBlind().right(6, true), 0);
        BambooBlind blind = Blinds.of(LARGEST);
        Check.same("all", blind.right(6, true), 480);
        Check.same("none by the other face", blind.right(6, false), 0);
        Check.same("none with lean 0", blind.right(0, true), 0);
        Check.same("all from the left", blind.right(-6, false), 480);
        blind.dab(9, true, 5, 7, 9);
        Check.same("all but the last", blind.right(6, true), 479);
        Check.same("all of one cell", Blinds.of(ONE).right(1, true), 1);
    }

    // Promise 17: "the cells that are open"
    private static void open() {
        Check.same("of nothing", new BambooBlind().open(0), 0);
        BambooBlind blind = Blinds.of(LARGEST);
        Check.same("all", blind.open(0), 480);
        Check.same("none", blind.open(6), 0);
        blind.turn(9, 4);
        Check.same("by a seam and by the lean", blind.open(6), 32 + 32);
        blind.turn(9, -4);
        Check.same("not what is covered", blind.open(0), 480 - 48);
    }

    // Promise 18: "the cells that are covered"
    private static void covered() {
        Check.same("of nothing", new BambooBlind().covered(0), 0);
        BambooBlind blind = Blinds.of(LARGEST);
        Check.same("none", blind.covered(0), 0);
        blind.turn(0, 4);
        blind.turn(1, -4);
        Check.same("all of a slat", blind.covered(0), 48);
        blind.turn(9, -1);
        Check.same("a column more", blind.covered(0), 56);
        Check.same("from the side, too", blind.covered(6), 56);
    }

    // Promise 19: "0 if no picture is seen whole, 1 if the left one is, 2 if the right one is, 3 if
    // both are"
    private static void wholeOfOne() {
        BambooBlind blind = Blinds.of(LARGEST);
        Check.same("the right one", blind.whole(6), 2);
        Check.same("the left one", blind.whole(-6), 1);
        Check.same("not with a column open a slat", blind.whole(5), 0);
        blind.dab(9, true, 5, 7, 3);
        Check.same("not with one wrong cell", blind.whole(6), 0);
        Check.same("both", Blinds.of(ONE).whole(1), 3);
        Check.same("none of both", Blinds.of(ONE).whole(0), 0);
        BambooBlind turned = Blinds.of("high 1;slat 1;slat 1;");
        turned.turn(1, 1);
        Check.same("not with an open column", turned.whole(6), 0);
        turned.turn(1, -1);
        Check.same("not with a covered column", turned.whole(6), 0);
    }

    // "A picture is seen whole [...] (of a blind with columns)"
    private static void wholeWithoutColumns() {
        BambooBlind blind = Blinds.of("high 1;box left 0 0 1 1 1;");
        for (int angle = -6; angle <= 6; angle++) {
            Check.same("whole without columns", blind.whole(angle), 0);
        }
        Check.same("span without columns", blind.span(true), 0);
        Check.same("dabs without columns", blind.dabs(6, true), NONE);
        Check.same("turnsNeeded without columns", blind.turnsNeeded(6, true), NONE);
    }

    // Promise 20: "the first cell, by numbers, [...] as its number; NONE if there is none"
    private static void firstWrong() {
        Check.same("of nothing", new BambooBlind().firstWrong(6, true), NONE);
        BambooBlind blind = Blinds.of(LARGEST);
        Check.same("none", blind.firstWrong(6, true), NONE);
        Check.same("the first one", blind.firstWrong(6, false), 0);
        blind.dab(9, true, 5, 7, 3);
        Check.same("the last one", blind.firstWrong(6, true), 479);
        blind.dab(0, true, 0, 7, 3);
        Check.same("the first one of the last row", blind.firstWrong(6, true), 420);
        blind.dab(9, true, 5, 0, 3);
        Check.same("the last one of the first row", blind.firstWrong(6, true), 59);
        blind.dab(0, true, 0, 0, 3);
        Check.same("the first one of all", blind.firstWrong(6, true), 0);
    }

    // "The number of a cell is its row times the columns of the blind, and its column."
    private static void firstWrongOfARowOrColumn() {
        BambooBlind high = Blinds.of("high 8;slat 1;");
        for (int row = 7; row >= 0; row--) {
            high.dab(0, true, 0, row, 9);
            Check.same("of one column", high.firstWrong(6, true), row);
        }
        BambooBlind wide = Blinds.of("high 1;" + "slat 6;".repeat(10));
        for (int column = 59; column >= 0; column--) {
            wide.dab(column / 6, true, column % 6, 0, 9);
            Check.same("of one row", wide.firstWrong(6, true), column);
        }
    }

    // Promise 21: "as a set: bit k for the angle k - 6"
    private static void shownFrom() {
        Check.same("from all but 0", Blinds.of(ONE).shownFrom(0), 8191 - 64);
        Check.same("from all but -4", Blinds.of("slat 1 left 4;").shownFrom(0), 8191 - 4);
        Check.same("from all but 4", Blinds.of("slat 1 right 4;").shownFrom(0), 8191 - 1024);
        BambooBlind wide = Blinds.of("slat 6;");
        Check.same("the last from the left", wide.shownFrom(5), 8064 + 1);
        Check.same("the first from the right", wide.shownFrom(0), 63 + 4096);
        BambooBlind turned = Blinds.of("slat 1 right 1;slat 1;slat 1 right 1;slat 1 right 2;");
        Check.same("covered from all", turned.shownFrom(1), 0);
        Check.same("open from all", turned.shownFrom(2), 0);
        // From -6 to -2 all of the left face, from 5 on the last columns of the right one.
        Check.same("turned by 4", Blinds.of("slat 6 right 4;").shownFrom(5), 31 + 2048 + 4096);
    }

    // Promise 22: "the lowest one of several; NOWHERE without columns"
    private static void bestAngle() {
        Check.same("of nothing", new BambooBlind().bestAngle(true), NOWHERE);
        Check.same("of boxes without columns",
                Blinds.of("box left 0 0 1 1 1;").bestAngle(false), NOWHERE);
        Check.same("the highest angle", Blinds.of(LARGEST).bestAngle(true), 6);
        Check.same("the lowest angle", Blinds.of(LARGEST).bestAngle(false), -6);
        Check.same("the lower one of 5 and 6", Blinds.of(EVEN).bestAngle(true), 5);
        Check.same("the lower one of -6 and -5", Blinds.of(EVEN).bestAngle(false), -6);
        BambooBlind none = Blinds.of("high 1;slat 1;box left 0 0 1 1 1;box right 0 0 1 1 2;");
        none.dab(0, true, 0, 0, 3);
        none.dab(0, false, 0, 0, 3);
        Check.same("no cell from any", none.bestAngle(true), -6);
    }

    // Promise 23: "(as they tell it, also more than there are); 0 of the last slat"
    private static void seam() {
        BambooBlind blind = Blinds.of("slat 1 right 4;slat 1 left 4;slat 1 right 4;");
        Check.same("8 of one column", blind.seam(0), 8);
        Check.same("-8 of one column", blind.seam(1), -8);
        Check.same("the last slat", blind.seam(2), 0);
        blind.turn(1, 4);
        Check.same("nothing between like turns", blind.seam(0), 0);
        blind.turn(1, 3);
        Check.same("one column", blind.seam(0), 1);
        Check.same("below 0", blind.seam(1), -1);
        Check.same("the only slat", Blinds.of("slat 6 left 4;").seam(0), 0);
    }

    // Promise 24: "the most columns side by side (also of several slats) that are shown"
    private static void run() {
        Check.same("of nothing", new BambooBlind().run(6), 0);
        Check.same("none", Blinds.of(LARGEST).run(0), 0);
        Check.same("all", Blinds.of(LARGEST).run(6), 60);
        Check.same("one", Blinds.of(ONE).run(1), 1);
        BambooBlind blind = Blinds.of("slat 4;slat 1;slat 2;slat 1;slat 3;");
        Check.same("all slats", blind.run(6), 11);
        blind.turn(1, 1);
        // The last column of slat 0 is open, the first one of slat 2 is covered.
        Check.same("the last ones", blind.run(6), 5);
        blind.turn(3, -1);
        Check.same("the first ones, and the last ones", blind.run(6), 3);
        Check.same("none from 0 but the turned ones", blind.run(0), 1);
    }

    // Promise 25: "the lowest one of several; NONE if all are seen right, or without columns"
    private static void worstSlat() {
        Check.same("of nothing", new BambooBlind().worstSlat(6, true), NONE);
        BambooBlind blind = Blinds.of(LARGEST);
        Check.same("all are right", blind.worstSlat(6, true), NONE);
        Check.same("the lowest one of all", blind.worstSlat(6, false), 0);
        blind.dab(9, true, 5, 7, 3);
        Check.same("one cell of the last one", blind.worstSlat(6, true), 9);
        blind.dab(3, true, 0, 0, 3);
        Check.same("one cell of each", blind.worstSlat(6, true), 3);
        blind.dab(4, true, 0, 0, 3);
        blind.dab(4, true, 0, 1, 3);
        Check.same("two cells of one", blind.worstSlat(6, true), 4);
        Check.same("the widest one", Blinds.of("slat 5;slat 6;slat 6;").worstSlat(0, true), 1);
        Check.same("the only one", Blinds.of(ONE).worstSlat(0, true), 0);
    }

    // Promise 26: "the cells that are shown, and whose colour is not that of a picture, but that of
    // the other one"
    private static void ghosts() {
        Check.same("of nothing", new BambooBlind().ghosts(6, true), 0);
        BambooBlind blind = Blinds.of(LARGEST);
        Check.same("all", blind.ghosts(6, false), 480);
        Check.same("none", blind.ghosts(6, true), 0);
        Check.same("none that is open", blind.ghosts(0, false), 0);
        blind.dab(9, true, 5, 7, 3);
        Check.same("no third colour", blind.ghosts(6, false), 479);
        blind.dab(0, true, 0, 0, 1);
        Check.same("one on its own face", blind.ghosts(6, true), 1);
        blind.spot(true, 0, 0, 1);
        Check.same("none of both pictures", blind.ghosts(6, true), 0);
        Check.same("one less of the other", blind.ghosts(6, false), 478);
        blind.turn(9, -4);
        Check.same("none that is covered", blind.ghosts(6, false), 478 - 32);
    }

    // Promise 27: "and bears one more coat"
    private static void paintableCoats() {
        for (int coats = 1; coats <= 3; coats++) {
            BambooBlind blind = Blinds.of("coats " + coats + ";slat 1;box right 0 0 1 1 5;");
            for (int coat = 1; coat < coats; coat++) {
                blind.dab(0, true, 0, 0, 3);
                Check.same("it bears one more", blind.paintable(true), 1);
                blind.paint(0, true);
            }
            blind.dab(0, true, 0, 0, 3);
            Check.same("it bears no more", blind.paintable(true), 0);
            blind.dab(0, false, 0, 0, 3);
            Check.same("the other face", blind.paintable(false), coats > 1 ? 1 : 0);
        }
    }

    // Promise 27: "the slats whose right face (or left one) has some cell with another colour", "as
    // a set (bit k for slat k)"
    private static void paintableSlats() {
        Check.same("of nothing", new BambooBlind().paintable(true), 0);
        BambooBlind blind = Blinds.of(LARGEST);
        Check.same("none", blind.paintable(true), 0);
        blind.dab(9, true, 5, 7, 3);
        Check.same("the last one by its last cell", blind.paintable(true), 512);
        blind.dab(0, true, 0, 0, 3);
        Check.same("the first one by its first cell", blind.paintable(true), 513);
        Check.same("none of the left faces", blind.paintable(false), 0);
        for (int slat = 0; slat < 10; slat++) {
            blind.swap(slat);
        }
        Check.same("all of them", blind.paintable(false), 1023);
    }

    // Promise 28: "the most angles one behind the other from each of which a picture is seen whole"
    private static void span() {
        Check.same("of nothing", new BambooBlind().span(true), 0);
        Check.same("none", Blinds.of("slat 1;slat 1 right 1;").span(true), 0);
        Check.same("the last one alone", Blinds.of(LARGEST).span(true), 1);
        Check.same("the first one alone", Blinds.of(LARGEST).span(false), 1);
        Check.same("up to one end or the other", Blinds.of(ONE).span(true), 6);
        Check.same("the last ones", Blinds.of("slat 1 left 4;").span(false), 10);
        Check.same("the first ones", Blinds.of("slat 1 right 4;").span(false), 10);
        BambooBlind turned = Blinds.of("high 1;slat 6 right 4;box left 0 0 6 1 1;");
        Check.same("-6 to -2", turned.span(false), 5);
        Check.same("never", turned.span(true), 0);
    }

    // Promise 29: "as a float, divided by all cells as a float; 0.0f without columns"
    private static void light() {
        Check.same("of nothing", new BambooBlind().light(0), 0.0f);
        Check.same("of boxes without columns", Blinds.of("box left 0 0 1 1 1;").light(6), 0.0f);
        Check.same("all", Blinds.of(LARGEST).light(0), 1.0f);
        Check.same("none", Blinds.of(LARGEST).light(6), 0.0f);
        Check.same("a third", Blinds.of("slat 3;").light(4), 1.0f / 3.0f);
        Check.same("two thirds", Blinds.of("slat 3;").light(2), 2.0f / 3.0f);
        BambooBlind blind = Blinds.of(LARGEST);
        blind.turn(9, 1);
        Check.same("a column of all", blind.light(6), 16.0f / 480.0f);
    }

    // Promise 30: "the mean over all 13 angles [...] as a double (sum / 13)"
    private static void meanRight() {
        Check.same("of nothing", new BambooBlind().meanRight(true), 0.0);
        Check.same("of one cell", Blinds.of(ONE).meanRight(true), 12 / 13.0);
        Check.same("of the largest", Blinds.of(LARGEST).meanRight(true), 1680 / 13.0);
        Check.same("of its left picture", Blinds.of(LARGEST).meanRight(false), 1680 / 13.0);
        BambooBlind both = Blinds.of("high 8;" + "slat 6;".repeat(10));
        Check.same("the most", both.meanRight(true), 3360 / 13.0);
        both.turn(0, 4);
        Check.same("turned by 4", Blinds.of("high 1;slat 1 left 4;box right 0 0 1 1 1;")
                .meanRight(true), 10 / 13.0);
    }

    // Promise 31: "the lowest one of several; NOWHERE without columns"
    private static void lightest() {
        Check.same("of nothing", new BambooBlind().lightest(), NOWHERE);
        Check.same("of boxes without columns", Blinds.of("box left 0 0 1 1 1;").lightest(), NOWHERE);
        Check.same("to the left", Blinds.of("slat 1 left 4;").lightest(), -4);
        Check.same("to the right", Blinds.of("slat 6 right 4;").lightest(), 4);
        // The last column of slat 1 is open from -6 to -2, slat 0 is from 0 alone.
        Check.same("the lowest angle", Blinds.of("slat 1;slat 3 left 2;").lightest(), -6);
        Check.same("two slats", Blinds.of("slat 1 left 4;slat 1 left 4;").lightest(), -4);
    }

    private static void askingChangesNothing() {
        for (int angle = -6; angle <= 6; angle++) {
            int from = angle;
            Twins.unchanged("asking from " + angle, Twins::used, blind -> {
                Blinds.seen(blind, from);
                blind.why(from, true, 2, 1);
                blind.right(from, true);
                blind.open(from);
                blind.covered(from);
                blind.whole(from);
                blind.firstWrong(from, false);
                blind.run(from);
                blind.worstSlat(from, true);
                blind.ghosts(from, true);
                blind.light(from);
            });
        }
        Twins.unchanged("asking from all angles", Twins::used, blind -> {
            blind.shownFrom(2);
            blind.bestAngle(true);
            blind.seam(0);
            blind.paintable(true);
            blind.span(true);
            blind.meanRight(false);
            blind.lightest();
        });
    }
}
