/**
 * The bounds of the changes: promises 37 to 43, and which exception comes first. The sentence that
 * a test stands for is told above it.
 */
public final class ChangeBoundsTest {
    private static final int[] FAR = {-1, Integer.MIN_VALUE, Integer.MAX_VALUE};
    private static final String LARGEST = "high 8;coats 99;" + "slat 6;".repeat(10)
            + "box left 0 0 60 8 1;box right 0 0 60 8 2;";
    private static final String ONE = "high 1;slat 1;";

    private ChangeBoundsTest() {
    }

    public static void main(String[] args) {
        pullRefused();
        pullAllowed();
        pullToTheEnds();
        pullEachByItself();
        pullOfNone();
        turnRefused();
        turnOrder();
        turnAllowed();
        turnOfTiedSlats();
        tieRefused();
        tieAsItIs();
        tieOfEachSlat();
        paintRefused();
        paintUpToTheCoats();
        paintAnswers();
        dabRefused();
        dabOrder();
        dabColours();
        dabCells();
        dabWhateverCoats();
        swapRefused();
        swapAnswers();
        swapCoats();
        spotRefused();
        spotOrder();
        spotColours();
        spotCells();
        spotUpToSixteen();
        spotLeavesTheFaces();
        undoneChangesAreRefusedAgain();
        Check.end();
    }

    // Promise 37: "by -8 to 8, not 0"; "throws IllegalArgumentException if by is out of range"
    private static void pullRefused() {
        for (int by : new int[] {-9, 0, 9, Integer.MIN_VALUE, Integer.MAX_VALUE}) {
            Twins.noValue("pull by " + by, Twins::used, blind -> blind.pull(by));
            Twins.noValue("pull nothing by " + by, BambooBlind::new, blind -> blind.pull(by));
        }
    }

    private static void pullAllowed() {
        for (int by = -8; by <= 8; by++) {
            if (by != 0) {
                BambooBlind blind = Blinds.of("slat 1;slat 1 left 4;slat 1 right 4;");
                blind.pull(by);
                Check.same("turns by " + by, Blinds.ofSlats(blind, 2), Math.max(-4, Math.min(4, by))
                        + " " + Math.max(-4, by - 4) + " " + Math.min(4, by + 4));
            }
        }
    }

    // "but, each by itself, not beyond -4 or 4"; "how many slats have another turn then"
    private static void pullToTheEnds() {
        BambooBlind blind = Blinds.of(ONE);
        for (int turn = 1; turn <= 4; turn++) {
            Check.same("a step to the right", blind.pull(1), 1);
            Check.same("its turn", blind.slat(0, 2), turn);
        }
        Check.same("no step beyond 4", blind.pull(1), 0);
        Check.same("it stays at 4", blind.slat(0, 2), 4);
        Check.same("from end to end", blind.pull(-8), 1);
        Check.same("it is at -4", blind.slat(0, 2), -4);
        Check.same("no step beyond -4", blind.pull(-1), 0);
        Check.same("it stays at -4", blind.slat(0, 2), -4);
        Check.same("up to the end alone", blind.pull(7), 1);
        Check.same("it is at 3", blind.slat(0, 2), 3);
    }

    private static void pullEachByItself() {
        BambooBlind blind = Blinds.of("slat 1 left 4;slat 1 left 3;slat 1;slat 1 right 3;"
                + "slat 1 right 4;");
        Check.same("all but the last", blind.pull(2), 4);
        Check.same("their turns", Blinds.ofSlats(blind, 2), "-2 -1 2 4 4");
        Check.same("all", blind.pull(-8), 5);
        Check.same("all at one end", Blinds.ofSlats(blind, 2), "-4 -4 -4 -4 -4");
        blind.tie(0, true);
        blind.tie(4, true);
        Check.same("those that are not tied", blind.pull(8), 3);
        Check.same("tied at both sides", Blinds.ofSlats(blind, 2), "-4 4 4 4 -4");
    }

    private static void pullOfNone() {
        BambooBlind none = new BambooBlind();
        Check.same("no slat", none.pull(8), 0);
        Check.same("it can be undone", none.setting(9), 1);
        BambooBlind tied = Blinds.of(ONE);
        tied.tie(0, true);
        Check.same("all are tied", tied.pull(-8), 0);
        Check.same("its turn", tied.slat(0, 2), 0);
        Check.same("that can be undone", tied.setting(9), 2);
        Check.same("each of the largest", Blinds.of(LARGEST).pull(-1), 10);
    }

    // Promise 38: "to -4 to 4"; "throws IllegalArgumentException if to is out of range"; "throws
    // IllegalStateException if it is tied"
    private static void turnRefused() {
        for (int to : new int[] {-5, 5, Integer.MIN_VALUE, Integer.MAX_VALUE}) {
            Twins.noValue("turn to " + to, Twins::used, blind -> blind.turn(0, to));
        }
        for (int far : FAR) {
            Twins.noPlace("turn of " + far, Twins::used, blind -> blind.turn(far, 0));
        }
        Twins.noPlace("turn of 2", Twins::used, blind -> blind.turn(2, 0));
        Twins.noPlace("turn of nothing", BambooBlind::new, blind -> blind.turn(0, 0));
        Twins.noState("turn of a tied slat", Twins::used, blind -> blind.turn(1, 1));
        Twins.noState("turn of a tied slat to its turn", Twins::used, blind -> blind.turn(1, 0));
        Twins.noState("turn of a tied slat to -4", Twins::used, blind -> blind.turn(1, -4));
    }

    // "If several exceptions apply to a call, the one that is listed first is thrown."
    private static void turnOrder() {
        Twins.noPlace("slat 2 before to 5", Twins::used, blind -> blind.turn(2, 5));
        Twins.noPlace("slat -1 before to -5", Twins::used, blind -> blind.turn(-1, -5));
        Twins.noValue("to 5 before tied", Twins::used, blind -> blind.turn(1, 5));
        Twins.noValue("to -5 before tied", Twins::used, blind -> blind.turn(1, -5));
        Twins.noPlace("no slat before to 5", BambooBlind::new, blind -> blind.turn(0, 5));
    }

    // "its turn before"
    private static void turnAllowed() {
        BambooBlind blind = Blinds.of(LARGEST);
        int before = 0;
        for (int to = -4; to <= 4; to++) {
            Check.same("the turn before", blind.turn(9, to), before);
            Check.same("the turn then", blind.slat(9, 2), to);
            before = to;
        }
        Check.same("to the same", blind.turn(9, 4), 4);
        Check.same("the first slat", blind.turn(0, -4), 0);
        Check.same("the others stay", Blinds.ofSlats(blind, 2), "-4 0 0 0 0 0 0 0 0 4");
        Check.noPlace("slat 10", () -> blind.turn(10, 0));
    }

    private static void turnOfTiedSlats() {
        BambooBlind blind = Blinds.of("slat 1;slat 1;");
        blind.tie(1, true);
        Check.same("beside a tied one", blind.turn(0, 4), 0);
        Check.noState("the tied one", () -> blind.turn(1, 4));
        blind.tie(1, false);
        Check.same("freed", blind.turn(1, 4), 0);
    }

    private static void tieRefused() {
        for (boolean isOn : new boolean[] {false, true}) {
            for (int far : FAR) {
                Twins.noPlace("tie of " + far, Twins::used, blind -> blind.tie(far, isOn));
            }
            Twins.noPlace("tie of 2", Twins::used, blind -> blind.tie(2, isOn));
            Twins.noPlace("tie of 32", Twins::used, blind -> blind.tie(32, isOn));
            Twins.noPlace("tie of 33", Twins::used, blind -> blind.tie(33, isOn));
            Twins.noPlace("tie of nothing", BambooBlind::new, blind -> blind.tie(0, isOn));
        }
    }

    // Promise 39: "true; false, and nothing changes, if it is so already"
    private static void tieAsItIs() {
        Twins.unchanged("freeing a free slat", Twins::used,
                blind -> Check.same("a free slat", blind.tie(0, false), false));
        Twins.unchanged("tying a tied slat", Twins::used,
                blind -> Check.same("a tied slat", blind.tie(1, true), false));
        BambooBlind blind = Blinds.of(ONE);
        Check.same("not tied at first", blind.tie(0, false), false);
        for (int times = 0; times < 3; times++) {
            Check.same("tie", blind.tie(0, true), true);
            Check.same("tie again", blind.tie(0, true), false);
            Check.same("free", blind.tie(0, false), true);
            Check.same("free again", blind.tie(0, false), false);
        }
        Check.same("six of them can be undone", blind.setting(9), 6);
        // What returns false takes no place of what can be undone.
        blind.tie(0, false);
        for (int left = 5; left >= 0; left--) {
            Check.same("undo of a tie", blind.undo(), left);
            Check.same("tied or free", blind.slat(0, 3), left % 2 == 0 ? 0 : 1);
        }
    }

    private static void tieOfEachSlat() {
        BambooBlind blind = Blinds.of(LARGEST);
        Check.same("the last one", blind.tie(9, true), true);
        Check.same("the first one", blind.tie(0, true), true);
        Check.same("the others are free", Blinds.ofSlats(blind, 3), "1 0 0 0 0 0 0 0 0 1");
        Check.same("the last one is free", blind.tie(9, false), true);
        Check.same("the first one is tied", Blinds.ofSlats(blind, 3), "1 0 0 0 0 0 0 0 0 0");
        Check.noPlace("slat 10", () -> blind.tie(10, true));
    }

    // Promise 40: "throws IllegalStateException if it has as many coats as a face bears"
    private static void paintRefused() {
        for (boolean isRight : new boolean[] {false, true}) {
            for (int far : FAR) {
                Twins.noPlace("paint of " + far, Twins::used, blind -> blind.paint(far, isRight));
            }
            Twins.noPlace("paint of 2", Twins::used, blind -> blind.paint(2, isRight));
            Twins.noPlace("paint of nothing", BambooBlind::new, blind -> blind.paint(0, isRight));
            Twins.noState("paint with one coat", () -> Blinds.of("coats 1;slat 1;"),
                    blind -> blind.paint(0, isRight));
        }
        Twins.noState("a third coat of two", Twins::used, blind -> blind.paint(0, true));
        Check.noPlace("slat 10", () -> Blinds.of(LARGEST).paint(10, true));
    }

    private static void paintUpToTheCoats() {
        for (int coats : new int[] {1, 2, 8, 9, 10, 98, 99}) {
            BambooBlind blind = Blinds.of("coats " + coats + ";slat 1;slat 1;");
            for (int coat = 2; coat <= coats; coat++) {
                Check.same("coat " + coat, blind.paint(1, true), 0);
                Check.same("coats then", blind.slat(1, 5), coat);
            }
            Check.noState("coat " + (coats + 1), () -> blind.paint(1, true));
            Check.same("coats yet", blind.slat(1, 5), coats);
            Check.same("coats of the left face", blind.slat(1, 4), 1);
            Check.same("coats of the other slat", blind.slat(0, 5), 1);
        }
        BambooBlind usual = Blinds.of("slat 1;");
        for (int coat = 2; coat <= 9; coat++) {
            Check.same("coat without \"coats\"", usual.paint(0, false), 0);
        }
        Check.noState("a 10th coat without \"coats\"", () -> usual.paint(0, false));
    }

    // "how many cells have another colour then"
    private static void paintAnswers() {
        BambooBlind blind = Blinds.of(LARGEST);
        Check.same("none", blind.paint(9, true), 0);
        blind.swap(9);
        Check.same("each cell", blind.paint(9, true), 48);
        Check.same("the left face of it is wrong yet", blind.slat(9, 6), 48);
        Check.same("each cell of the left face", blind.paint(9, false), 48);
        blind.dab(9, true, 5, 7, 0);
        blind.dab(9, true, 0, 0, 9);
        Check.same("two cells", blind.paint(9, true), 2);
        Check.same("all is right", blind.slat(9, 7), 0);
        blind.spot(true, 54, 0, 0);
        blind.spot(true, 53, 7, 0);
        Check.same("a spot in its first column", blind.paint(9, true), 1);
        Check.same("the other one is not its own", blind.slat(8, 7), 1);
    }

    // Promise 41: "throws IllegalArgumentException if colour is out of range"
    private static void dabRefused() {
        for (boolean isRight : new boolean[] {false, true}) {
            for (int far : FAR) {
                Twins.noPlace("dab of " + far, Twins::used,
                        blind -> blind.dab(far, isRight, 0, 0, 1));
                Twins.noPlace("dab at column " + far, Twins::used,
                        blind -> blind.dab(0, isRight, far, 0, 1));
                Twins.noPlace("dab at row " + far, Twins::used,
                        blind -> blind.dab(0, isRight, 0, far, 1));
                Twins.noValue("dab of colour " + far, Twins::used,
                        blind -> blind.dab(0, isRight, 0, 0, far));
            }
            Twins.noPlace("dab of 2", Twins::used, blind -> blind.dab(2, isRight, 0, 0, 1));
            Twins.noPlace("dab 0 at column 2", Twins::used,
                    blind -> blind.dab(0, isRight, 2, 0, 1));
            Twins.noPlace("dab 1 at column 1", Twins::used,
                    blind -> blind.dab(1, isRight, 1, 0, 1));
            Twins.noPlace("dab at row 2", Twins::used, blind -> blind.dab(0, isRight, 0, 2, 1));
            Twins.noValue("dab of colour 10", Twins::used,
                    blind -> blind.dab(0, isRight, 0, 0, 10));
            Twins.noPlace("dab of nothing", BambooBlind::new,
                    blind -> blind.dab(0, isRight, 0, 0, 1));
        }
    }

    private static void dabOrder() {
        Twins.noPlace("slat 2 before colour 10", Twins::used,
                blind -> blind.dab(2, true, 0, 0, 10));
        Twins.noPlace("column 2 before colour -1", Twins::used,
                blind -> blind.dab(0, true, 2, 0, -1));
        Twins.noPlace("row 2 before colour 10", Twins::used,
                blind -> blind.dab(0, false, 0, 2, 10));
        Twins.noPlace("no slat before colour 10", BambooBlind::new,
                blind -> blind.dab(0, false, 0, 0, 10));
    }

    // "colour 0 to 9"; "the colour before"
    private static void dabColours() {
        BambooBlind blind = Blinds.of(ONE);
        int before = 0;
        for (int colour = 9; colour >= 0; colour--) {
            Check.same("the colour before", blind.dab(0, true, 0, 0, colour), before);
            Check.same("the colour then", blind.face(0, true, 0, 0), colour);
            before = colour;
        }
        Check.same("the other face", blind.face(0, false, 0, 0), 0);
        Check.same("the picture", blind.picture(true, 0, 0), 0);
    }

    private static void dabCells() {
        BambooBlind blind = Blinds.of(LARGEST);
        Check.same("the first cell", blind.dab(0, false, 0, 0, 9), 1);
        Check.same("the last cell", blind.dab(9, true, 5, 7, 9), 2);
        Check.same("of slat 0 alone", Blinds.face(blind, 0, false),
                ("911111" + "/111111".repeat(7)));
        Check.same("of slat 9 alone", Blinds.face(blind, 9, true),
                ("222222/".repeat(7) + "222229"));
        Check.same("cells of slat 9", blind.slat(9, 7), 1);
        Check.same("cells of slat 8", blind.slat(8, 7), 0);
        Check.noPlace("column 6", () -> blind.dab(9, true, 6, 7, 9));
        Check.noPlace("row 8", () -> blind.dab(9, true, 5, 8, 9));
        Check.noPlace("slat 10", () -> blind.dab(10, true, 0, 0, 9));
    }

    // "(no coat more)"
    private static void dabWhateverCoats() {
        BambooBlind blind = Blinds.of("coats 1;slat 1;");
        Check.same("with all its coats", blind.dab(0, true, 0, 0, 5), 0);
        Check.same("no coat more", blind.slat(0, 5), 1);
    }

    private static void swapRefused() {
        for (int far : FAR) {
            Twins.noPlace("swap of " + far, Twins::used, blind -> blind.swap(far));
        }
        Twins.noPlace("swap of 2", Twins::used, blind -> blind.swap(2));
        Twins.noPlace("swap of nothing", BambooBlind::new, blind -> blind.swap(0));
        Check.noPlace("swap of 10", () -> Blinds.of(LARGEST).swap(10));
    }

    // Promise 42: "how many cells of the left face have another colour then"; "(not mirrored)"
    private static void swapAnswers() {
        BambooBlind blind = Blinds.of(LARGEST);
        Check.same("each cell", blind.swap(9), 48);
        Check.same("each cell of the first", blind.swap(0), 48);
        Check.same("slat 8 stays", blind.slat(8, 6), 0);
        Check.same("none", Blinds.of("slat 6;").swap(0), 0);
        BambooBlind ends = Blinds.of("high 1;slat 3;box left 0 0 1 1 1;box right 2 0 1 1 2;");
        Check.same("two cells", ends.swap(0), 2);
        Check.same("the left face is the right one", Blinds.face(ends, 0, false), "002");
        Check.same("the right face is the left one", Blinds.face(ends, 0, true), "100");
    }

    // "with their coats"
    private static void swapCoats() {
        BambooBlind blind = Blinds.of("coats 2;slat 1;");
        blind.paint(0, false);
        blind.swap(0);
        Check.same("coats of the left face", blind.slat(0, 4), 1);
        Check.same("coats of the right face", blind.slat(0, 5), 2);
        Check.noState("the right face bears no more", () -> blind.paint(0, true));
        Check.same("the left face bears one more", blind.paint(0, false), 0);
        Check.noState("then no more", () -> blind.paint(0, false));
    }

    // Promise 43: "throws IllegalArgumentException if colour is out of range"; "throws
    // IllegalStateException if there are 16"
    private static void spotRefused() {
        for (boolean isRight : new boolean[] {false, true}) {
            for (int far : FAR) {
                Twins.noPlace("spot at column " + far, Twins::used,
                        blind -> blind.spot(isRight, far, 0, 1));
                Twins.noPlace("spot at row " + far, Twins::used,
                        blind -> blind.spot(isRight, 0, far, 1));
                Twins.noValue("spot of colour " + far, Twins::used,
                        blind -> blind.spot(isRight, 0, 0, far));
            }
            Twins.noPlace("spot at column 3", Twins::used, blind -> blind.spot(isRight, 3, 0, 1));
            Twins.noPlace("spot at row 2", Twins::used, blind -> blind.spot(isRight, 0, 2, 1));
            Twins.noValue("spot of colour 10", Twins::used,
                    blind -> blind.spot(isRight, 0, 0, 10));
            Twins.noPlace("spot of nothing", BambooBlind::new,
                    blind -> blind.spot(isRight, 0, 0, 1));
            Twins.noState("a 17th box", ChangeBoundsTest::full,
                    blind -> blind.spot(isRight, 0, 0, 1));
        }
    }

    private static void spotOrder() {
        Twins.noPlace("column 3 before colour 10", Twins::used,
                blind -> blind.spot(true, 3, 0, 10));
        Twins.noPlace("row 2 before colour -1", Twins::used,
                blind -> blind.spot(true, 0, 2, -1));
        Twins.noPlace("column 1 before 16 boxes", ChangeBoundsTest::full,
                blind -> blind.spot(true, 1, 0, 1));
        Twins.noPlace("row 1 before all", ChangeBoundsTest::full,
                blind -> blind.spot(false, 0, 1, 10));
        Twins.noValue("colour 10 before 16 boxes", ChangeBoundsTest::full,
                blind -> blind.spot(true, 0, 0, 10));
        Twins.noValue("colour -1 before 16 boxes", ChangeBoundsTest::full,
                blind -> blind.spot(false, 0, 0, -1));
        Twins.noPlace("no column before colour 10", BambooBlind::new,
                blind -> blind.spot(true, 0, 0, 10));
    }

    /** There are 16 boxes, nine of the left picture. */
    private static BambooBlind full() {
        BambooBlind blind = Blinds.of("high 1;slat 1;" + "box left 0 0 1 1 4;".repeat(8)
                + "box right 0 0 1 1 5;".repeat(7));
        blind.spot(false, 0, 0, 6);
        return blind;
    }

    // "a box of a colour (0 to 9) behind all others of a picture"
    private static void spotColours() {
        for (int colour = 0; colour <= 9; colour++) {
            BambooBlind blind = Blinds.of("high 1;slat 2;box left 0 0 2 1 5;box right 0 0 2 1 6;");
            Check.same("boxes with a spot", blind.spot(false, 1, 0, colour), 3);
            Check.same("the left picture", Blinds.picture(blind, false), "5" + colour);
            Check.same("the right picture stays", Blinds.picture(blind, true), "66");
            Check.same("boxes with another spot", blind.spot(true, 0, 0, colour), 4);
            Check.same("the right picture then", Blinds.picture(blind, true), colour + "6");
        }
    }

    // "which has the column and row alone"
    private static void spotCells() {
        BambooBlind blind = Blinds.of(LARGEST);
        Check.same("the last cell", blind.spot(true, 59, 7, 0), 3);
        Check.same("the first cell", blind.spot(true, 0, 0, 9), 4);
        Check.same("the last one of the left picture", blind.spot(false, 59, 7, 2), 5);
        Check.same("of the last slat", blind.slat(9, 7), 1);
        Check.same("of the first slat", blind.slat(0, 7), 1);
        Check.same("left of it", blind.picture(true, 58, 7), 2);
        Check.same("above it", blind.picture(true, 59, 6), 2);
        Check.same("the last cell then", blind.picture(true, 59, 7), 0);
        Check.same("no cell in common", blind.common(), 0);
        Check.noPlace("column 60", () -> blind.spot(true, 60, 7, 1));
        Check.noPlace("row 8", () -> blind.spot(true, 59, 8, 1));
    }

    // "how many boxes there are of both pictures"
    private static void spotUpToSixteen() {
        BambooBlind blind = Blinds.of(ONE);
        for (int boxes = 1; boxes <= 16; boxes++) {
            Check.same("boxes", blind.spot(boxes % 3 == 0, 0, 0, boxes % 10), boxes);
        }
        Check.same("left boxes", blind.setting(3), 11);
        Check.same("right boxes", blind.setting(4), 5);
        Check.noState("a 17th box", () -> blind.spot(false, 0, 0, 1));
        Check.noState("a 17th box of the right picture", () -> blind.spot(true, 0, 0, 1));
        Check.same("the 16th one is seen", blind.picture(false, 0, 0), 6);
        BambooBlind text = Blinds.of(ONE + "box right 9 9 1 1 1;".repeat(15));
        Check.same("a 16th box behind a text", text.spot(false, 0, 0, 1), 16);
        Check.noState("no 17th behind it", () -> text.spot(false, 0, 0, 1));
    }

    // "(the faces stay)"
    private static void spotLeavesTheFaces() {
        BambooBlind blind = Blinds.of("high 1;slat 1;box left 0 0 1 1 5;");
        blind.spot(false, 0, 0, 7);
        Check.same("the face stays", blind.face(0, false, 0, 0), 5);
        Check.same("it is not right", blind.slat(0, 6), 1);
        Check.same("its coats stay", blind.slat(0, 4), 1);
        Check.same("it can be painted", blind.paint(0, false), 1);
        Check.same("the face then", blind.face(0, false, 0, 0), 7);
    }

    /** What was refused is allowed behind an undo, once. */
    private static void undoneChangesAreRefusedAgain() {
        BambooBlind boxes = full();
        boxes.undo();
        Check.same("a 16th box again", boxes.spot(true, 0, 0, 1), 16);
        Check.noState("no 17th", () -> boxes.spot(true, 0, 0, 1));
        BambooBlind coats = Blinds.of("coats 2;slat 1;");
        coats.paint(0, true);
        coats.undo();
        Check.same("a second coat again", coats.paint(0, true), 0);
        Check.noState("no third", () -> coats.paint(0, true));
        BambooBlind tied = Blinds.of(ONE);
        tied.tie(0, true);
        tied.undo();
        Check.same("free again", tied.turn(0, 4), 0);
        tied.tie(0, true);
        tied.tie(0, false);
        tied.undo();
        Check.noState("tied again", () -> tied.turn(0, 0));
    }
}
