/**
 * The bounds of what is there: "Slats and pictures" of the terms, and promises 8 to 13. The
 * sentence that a test stands for is told above it.
 */
public final class ThereBoundsTest {
    private static final int[] FAR = {-1, Integer.MIN_VALUE, Integer.MAX_VALUE};

    // The largest blind, with 16 boxes.
    private static final String LARGEST = "high 8;coats 99;" + "slat 6;".repeat(10)
            + "box left 0 0 60 8 1;".repeat(9) + "box right 0 0 60 8 2;".repeat(7);
    private static final String SMALLEST = "high 1;coats 1;slat 1;";

    private ThereBoundsTest() {
    }

    public static void main(String[] args) {
        settingRefused();
        settingsLeast();
        settingsMost();
        settingOfBoxes();
        settingOfTies();
        settingOfSeams();
        settingOfChanges();
        slatRefused();
        slatOrder();
        slatNumbersLeast();
        slatNumbersMost();
        slatFirstColumns();
        slatCoats();
        slatUnlikeCells();
        slatAt();
        slatAtOfEachWidth();
        pictureRefused();
        pictureWithoutBoxes();
        pictureCorners();
        pictureBeyondTheBlind();
        pictureToldLast();
        faceRefused();
        faceOfEachSlat();
        paintedWithOneCoat();
        common();
        unlikeColours();
        askingChangesNothing();
        Check.end();
    }

    // Promise 8: "Throws IllegalArgumentException if what is out of range"
    private static void settingRefused() {
        for (int what : new int[] {-1, 10, 11, Integer.MIN_VALUE, Integer.MAX_VALUE}) {
            Twins.noValue("setting " + what, Twins::used, blind -> blind.setting(what));
            Twins.noValue("setting " + what + " of a new object", BambooBlind::new,
                    blind -> blind.setting(what));
        }
        Check.same("setting 0", Twins.used().setting(0), 2);
        Check.same("setting 9", Twins.used().setting(9), 3);
    }

    private static void settingsLeast() {
        int[] ofNone = {0, 4, 0, 0, 0, 9, 0, 0, 0, 0};
        int[] ofOne = {1, 1, 1, 0, 0, 1, 0, 0, 0, 0};
        BambooBlind none = new BambooBlind();
        BambooBlind one = Blinds.of(SMALLEST);
        for (int what = 0; what <= 9; what++) {
            Check.same("setting " + what + " of nothing", none.setting(what), ofNone[what]);
            Check.same("setting " + what + " of the smallest", one.setting(what), ofOne[what]);
        }
    }

    private static void settingsMost() {
        int[] due = {10, 8, 60, 9, 7, 99, 0, 0, 0, 0};
        BambooBlind blind = Blinds.of(LARGEST);
        for (int what = 0; what <= 9; what++) {
            Check.same("setting " + what + " of the largest", blind.setting(what), due[what]);
        }
    }

    // "at most 16 of both together"; "3 boxes of the left picture, 4 of the right one"
    private static void settingOfBoxes() {
        BambooBlind blind = Blinds.of("slat 1;" + "box left 9 9 1 1 1;".repeat(15));
        Check.same("15 left boxes", blind.setting(3), 15);
        Check.same("no right box", blind.setting(4), 0);
        blind.spot(true, 0, 0, 0);
        Check.same("15 left boxes yet", blind.setting(3), 15);
        Check.same("a spot is a box", blind.setting(4), 1);
        Check.noState("a 17th box", () -> blind.spot(true, 0, 0, 0));
        Check.same("a refused spot is none", blind.setting(4), 1);
    }

    private static void settingOfTies() {
        BambooBlind blind = Blinds.of("high 1;" + "slat 1;".repeat(10));
        for (int slat = 0; slat < 10; slat++) {
            Check.same("tied slats", blind.setting(6), slat);
            blind.tie(slat, true);
        }
        Check.same("all are tied", blind.setting(6), 10);
        blind.tie(9, true);
        Check.same("none is tied twice", blind.setting(6), 10);
        blind.tie(9, false);
        Check.same("one is free", blind.setting(6), 9);
    }

    // "7 seams at which something is covered, 8 seams at which something is open"
    private static void settingOfSeams() {
        seams("slat 1;", 0, 0);
        seams("slat 1 left 4;", 0, 0);
        seams("slat 1;slat 1;", 0, 0);
        seams("slat 1 right 1;slat 1;", 1, 0);
        seams("slat 1;slat 1 right 1;", 0, 1);
        seams("slat 1 right 4;slat 1 left 4;", 1, 0);
        seams("slat 1 left 4;slat 1 right 4;", 0, 1);
        seams("slat 1 right 4;slat 1 right 3;slat 1 right 2;slat 1 right 1;slat 1;slat 1 left 1;"
                + "slat 1 left 2;slat 1 left 3;slat 1 left 4;slat 1 left 4;", 8, 0);
        seams("slat 1 right 1;slat 1;".repeat(5), 5, 4);
        seams("slat 1;slat 1 right 1;".repeat(5), 4, 5);
        seams("slat 6 left 3;".repeat(10), 0, 0);
    }

    private static void seams(String text, int covered, int open) {
        BambooBlind blind = Blinds.of("high 1;" + text);
        Check.same("seams that cover of " + text, blind.setting(7), covered);
        Check.same("seams that open of " + text, blind.setting(8), open);
    }

    // "9 changes that can be undone"; "the latest 6 of them are kept"
    private static void settingOfChanges() {
        BambooBlind blind = Blinds.of(SMALLEST);
        for (int changes = 1; changes <= 20; changes++) {
            blind.swap(0);
            Check.same("changes to undo", blind.setting(9), Math.min(6, changes));
        }
        for (int left = 5; left >= 0; left--) {
            blind.undo();
            Check.same("changes left", blind.setting(9), left);
        }
        blind.undo();
        Check.same("no change left", blind.setting(9), 0);
    }

    // "The parameters slat [...] are numbers of existing ones; otherwise IndexOutOfBoundsException
    // is thrown." Promise 9: "Throws IllegalArgumentException if what is out of range"
    private static void slatRefused() {
        for (int slat : new int[] {-1, 2, 10, 32, Integer.MIN_VALUE, Integer.MAX_VALUE}) {
            Twins.noPlace("slat " + slat, Twins::used, blind -> blind.slat(slat, 0));
        }
        for (int what : new int[] {-1, 8, Integer.MIN_VALUE, Integer.MAX_VALUE}) {
            Twins.noValue("slat 1, " + what, Twins::used, blind -> blind.slat(1, what));
            Twins.noValue("slat 0, " + what, Twins::used, blind -> blind.slat(0, what));
        }
        Twins.noPlace("slat 0 of nothing", BambooBlind::new, blind -> blind.slat(0, 0));
        Check.same("the last slat", Blinds.of(LARGEST).slat(9, 0), 6);
        Check.noPlace("behind the last slat", () -> Blinds.of(LARGEST).slat(10, 0));
        Check.noPlace("behind the only slat", () -> Blinds.of(SMALLEST).slat(1, 0));
    }

    // "If several exceptions apply to a call, the one that is listed first is thrown."
    private static void slatOrder() {
        Twins.noPlace("slat 2 before what 8", Twins::used, blind -> blind.slat(2, 8));
        Twins.noPlace("slat -1 before what -1", Twins::used, blind -> blind.slat(-1, -1));
        Twins.noPlace("no slat before what 8", BambooBlind::new, blind -> blind.slat(0, 8));
    }

    private static void slatNumbersLeast() {
        int[] due = {1, 0, 0, 0, 1, 1, 0, 0};
        BambooBlind blind = Blinds.of(SMALLEST);
        for (int what = 0; what <= 7; what++) {
            Check.same("the least of " + what, blind.slat(0, what), due[what]);
        }
        Check.same("the lowest turn", Blinds.of("slat 1 left 4;").slat(0, 2), -4);
    }

    private static void slatNumbersMost() {
        BambooBlind blind = Blinds.of(LARGEST);
        for (int coat = 2; coat <= 99; coat++) {
            blind.paint(9, false);
            blind.paint(9, true);
        }
        blind.tie(9, true);
        blind.swap(9);
        int[] due = {6, 54, 0, 1, 99, 99, 48, 48};
        for (int what = 0; what <= 7; what++) {
            Check.same("the most of " + what, blind.slat(9, what), due[what]);
        }
        Check.same("the highest turn", Blinds.of("slat 1 right 4;").slat(0, 2), 4);
    }

    private static void slatFirstColumns() {
        Check.same("first columns", Blinds.ofSlats(Blinds.of("slat 6;slat 1;slat 5;slat 2;slat 4;"
                + "slat 3;slat 1;slat 1;slat 6;slat 6;"), 1), "0 6 7 12 14 18 21 22 23 29");
    }

    // "painted from the left picture, the right faces from the right picture, with one coat"
    private static void slatCoats() {
        BambooBlind blind = Blinds.of("coats 2;slat 1;slat 1;");
        Check.same("one coat of the left faces", Blinds.ofSlats(blind, 4), "1 1");
        Check.same("one coat of the right faces", Blinds.ofSlats(blind, 5), "1 1");
        blind.paint(1, true);
        Check.noState("no third coat", () -> blind.paint(1, true));
        Check.same("the left faces then", Blinds.ofSlats(blind, 4), "1 1");
        Check.same("the right faces then", Blinds.ofSlats(blind, 5), "1 2");
    }

    // "6 cells of its left face that have not the colour of the left picture, 7 of its right face"
    private static void slatUnlikeCells() {
        BambooBlind blind = Blinds.of("high 8;slat 6;slat 6;box left 6 0 6 8 9;");
        Check.same("no cell is unlike", blind.slat(1, 6), 0);
        blind.swap(1);
        Check.same("each left cell is unlike", blind.slat(1, 6), 48);
        Check.same("each right cell is unlike", blind.slat(1, 7), 48);
        Check.same("none of another slat", blind.slat(0, 6), 0);
        blind.dab(1, false, 5, 7, 9);
        blind.dab(1, true, 0, 0, 0);
        Check.same("but one left cell", blind.slat(1, 6), 47);
        Check.same("but one right cell", blind.slat(1, 7), 47);
        BambooBlind other = Blinds.of("high 8;slat 6;slat 6;");
        other.spot(true, 6, 0, 1);
        other.spot(false, 5, 7, 1);
        Check.same("the picture is another one", other.slat(1, 7), 1);
        Check.same("of the first column of slat 1", other.slat(0, 7), 0);
        Check.same("of the last column of slat 0", other.slat(0, 6), 1);
        Check.same("not of slat 1", other.slat(1, 6), 0);
    }

    // "the parameter column is the number of an existing one"
    private static void slatAt() {
        for (int column : FAR) {
            Twins.noPlace("slat at " + column, Twins::used, blind -> blind.slatAt(column));
        }
        Twins.noPlace("slat at 3", Twins::used, blind -> blind.slatAt(3));
        Twins.noPlace("slat at 0 of nothing", BambooBlind::new, blind -> blind.slatAt(0));
        Check.same("the first column", Twins.used().slatAt(0), 0);
        Check.same("the last column", Twins.used().slatAt(2), 1);
        Check.same("the last column of all", Blinds.of(LARGEST).slatAt(59), 9);
        Check.noPlace("behind the last of all", () -> Blinds.of(LARGEST).slatAt(60));
        Check.noPlace("behind the only column", () -> Blinds.of(SMALLEST).slatAt(1));
    }

    private static void slatAtOfEachWidth() {
        BambooBlind blind = Blinds.of("slat 1;slat 2;slat 3;slat 4;slat 5;slat 6;slat 1;");
        StringBuilder slats = new StringBuilder();
        for (int column = 0; column < 22; column++) {
            slats.append(blind.slatAt(column));
        }
        Check.same("slats at all columns", slats.toString(), "0112223333444445555556");
    }

    // "column and row are numbers of existing ones"
    private static void pictureRefused() {
        for (boolean isRight : new boolean[] {false, true}) {
            for (int far : FAR) {
                Twins.noPlace("picture at column " + far, Twins::used,
                        blind -> blind.picture(isRight, far, 0));
                Twins.noPlace("picture at row " + far, Twins::used,
                        blind -> blind.picture(isRight, 0, far));
            }
            Twins.noPlace("picture at column 3", Twins::used,
                    blind -> blind.picture(isRight, 3, 0));
            Twins.noPlace("picture at row 2", Twins::used, blind -> blind.picture(isRight, 0, 2));
            Twins.noPlace("picture of nothing", BambooBlind::new,
                    blind -> blind.picture(isRight, 0, 0));
        }
        BambooBlind largest = Blinds.of(LARGEST);
        Check.same("the last cell of the left picture", largest.picture(false, 59, 7), 1);
        Check.same("the last cell of the right picture", largest.picture(true, 59, 7), 2);
        Check.noPlace("column 60", () -> largest.picture(true, 60, 7));
        Check.noPlace("row 8", () -> largest.picture(true, 59, 8));
        Check.noPlace("row 1 of the smallest", () -> Blinds.of(SMALLEST).picture(true, 0, 1));
        Check.noPlace("row 4 without \"high\"", () -> Blinds.of("slat 1;").picture(true, 0, 4));
        Check.same("row 3 without \"high\"", Blinds.of("slat 1;").picture(true, 0, 3), 0);
    }

    // "0 without such a box"
    private static void pictureWithoutBoxes() {
        BambooBlind blind = Blinds.of("high 2;slat 2;slat 1;box left 0 0 2 1 7;");
        Check.same("where no left box is", Blinds.picture(blind, false), "770/000");
        Check.same("without right boxes", Blinds.picture(blind, true), "000/000");
    }

    // "the column and the row of its upper left cell, its columns and its rows"
    private static void pictureCorners() {
        BambooBlind blind = Blinds.of("high 8;slat 6;slat 2;box left 2 3 4 2 5;box right 0 0 1 1 6;"
                + "box right 7 7 1 1 8;box right 7 0 1 1 9;box right 0 7 1 1 4;");
        Check.same("a box amid the blind", Blinds.picture(blind, false), "00000000/00000000/"
                + "00000000/00555500/00555500/00000000/00000000/00000000");
        Check.same("boxes in the corners", Blinds.picture(blind, true), "60000009/00000000/"
                + "00000000/00000000/00000000/00000000/00000000/40000008");
    }

    // "Boxes may reach beyond the blind."
    private static void pictureBeyondTheBlind() {
        BambooBlind blind = Blinds.of("high 2;slat 2;box left 1 1 64 64 5;box left 2 0 1 1 6;"
                + "box left 0 2 1 1 7;box left 63 63 64 64 8;box right 63 0 64 2 9;"
                + "box right 0 63 2 64 9;");
        Check.same("from its last cell on", Blinds.picture(blind, false), "00/05");
        Check.same("right of it and below", Blinds.picture(blind, true), "00/00");
        Check.same("they are boxes yet", blind.setting(3) + blind.setting(4), 6);
        Check.same("the faces of all", Blinds.face(blind, 0, false), "00/05");
        Check.same("of the largest box", Blinds.of(
                LARGEST.replace("box right 0 0 60 8 2;", "") + "box right 0 0 64 64 3;")
                .picture(true, 59, 7), 3);
        BambooBlind none = Blinds.of("box left 0 0 64 64 1;");
        Check.same("a box without columns", none.setting(3), 1);
        Check.noPlace("no cell of it", () -> none.picture(false, 0, 0));
    }

    // "The colour of a picture at a cell is that of the box of this picture told last that has the
    // cell"
    private static void pictureToldLast() {
        StringBuilder text = new StringBuilder("high 1;slat 6;slat 6;slat 4;");
        for (int box = 0; box < 16; box++) {
            text.append("box left 0 0 ").append(16 - box).append(" 1 ").append(box % 9 + 1);
            text.append(';');
        }
        Check.same("16 boxes on one another", Blinds.picture(Blinds.of(text.toString()), false),
                "7654321987654321");
        Check.same("told before a larger one", Blinds.picture(
                Blinds.of("high 1;slat 3;box left 1 0 1 1 2;box left 0 0 3 1 5;"), false), "555");
        Check.same("of the other picture", Blinds.picture(
                Blinds.of("high 1;slat 3;box left 1 0 1 1 2;box right 0 0 3 1 5;"), false), "020");
    }

    // "column of the blind, if there is no slat beside it, otherwise of this slat, from 0"
    private static void faceRefused() {
        for (boolean isRight : new boolean[] {false, true}) {
            for (int far : FAR) {
                Twins.noPlace("face of slat " + far, Twins::used,
                        blind -> blind.face(far, isRight, 0, 0));
                Twins.noPlace("face at column " + far, Twins::used,
                        blind -> blind.face(0, isRight, far, 0));
                Twins.noPlace("face at row " + far, Twins::used,
                        blind -> blind.face(0, isRight, 0, far));
            }
            Twins.noPlace("face of slat 2", Twins::used, blind -> blind.face(2, isRight, 0, 0));
            Twins.noPlace("face 0 at column 2", Twins::used,
                    blind -> blind.face(0, isRight, 2, 0));
            Twins.noPlace("face 1 at column 1", Twins::used,
                    blind -> blind.face(1, isRight, 1, 0));
            Twins.noPlace("face at row 2", Twins::used, blind -> blind.face(0, isRight, 0, 2));
            Twins.noPlace("face of nothing", BambooBlind::new,
                    blind -> blind.face(0, isRight, 0, 0));
        }
        BambooBlind largest = Blinds.of(LARGEST);
        Check.same("the last cell", largest.face(9, false, 5, 7), 1);
        Check.noPlace("column 6", () -> largest.face(9, false, 6, 7));
        Check.noPlace("row 8", () -> largest.face(9, false, 5, 8));
        Check.noPlace("slat 10", () -> largest.face(10, false, 0, 0));
    }

    private static void faceOfEachSlat() {
        BambooBlind blind = Blinds.of("high 1;slat 1;slat 2;slat 3;box left 0 0 1 1 1;"
                + "box left 1 0 1 1 2;box left 2 0 1 1 3;box left 3 0 1 1 4;box left 4 0 1 1 5;"
                + "box left 5 0 1 1 6;");
        Check.same("the only column", Blinds.face(blind, 0, false), "1");
        Check.same("two columns", Blinds.face(blind, 1, false), "23");
        Check.same("three columns", Blinds.face(blind, 2, false), "456");
        Check.same("the right face", Blinds.face(blind, 2, true), "000");
    }

    // "when the text is read the left faces are painted from the left picture, the right faces from
    // the right picture"
    private static void paintedWithOneCoat() {
        String left = ("/111111".repeat(8)).substring(1);
        for (int slat = 0; slat < 10; slat++) {
            BambooBlind blind = Blinds.of(LARGEST);
            Check.same("the left face", Blinds.face(blind, slat, false), left);
            Check.same("the right face", Blinds.face(blind, slat, true), left.replace('1', '2'));
            Check.same("coats of the left face", blind.slat(slat, 4), 1);
            Check.same("coats of the right face", blind.slat(slat, 5), 1);
        }
    }

    // Promise 13: "the number of cells at which both pictures have the same colour"
    private static void common() {
        Check.same("of nothing", new BambooBlind().common(), 0);
        Check.same("of boxes without columns",
                Blinds.of("box left 0 0 9 9 1;box right 0 0 9 9 1;").common(), 0);
        Check.same("no cell of the largest", Blinds.of(LARGEST).common(), 0);
        Check.same("each cell of the largest",
                Blinds.of("high 8;" + "slat 6;".repeat(10)).common(), 480);
        Check.same("each of one colour", Blinds.of("high 8;" + "slat 6;".repeat(10)
                + "box left 0 0 60 8 9;box right 0 0 60 8 9;").common(), 480);
        Check.same("the only cell", Blinds.of(SMALLEST).common(), 1);
        BambooBlind blind = Blinds.of(LARGEST.replace("box right 0 0 60 8 2;", ""));
        blind.spot(true, 59, 7, 1);
        blind.spot(true, 0, 0, 1);
        Check.same("the first and the last cell", blind.common(), 2);
    }

    /** Each two colours are compared, those of two pictures and those of a face and a picture. */
    private static void unlikeColours() {
        for (int left = 0; left <= 9; left++) {
            for (int right = 0; right <= 9; right++) {
                BambooBlind blind = Blinds.of("high 8;slat 1;");
                blind.spot(false, 0, 7, left);
                blind.spot(true, 0, 7, right);
                Check.same("common of " + left + " and " + right, blind.common(),
                        left == right ? 8 : 7);
                blind.dab(0, false, 0, 7, right);
                Check.same("unlike of " + left + " and " + right, blind.slat(0, 6),
                        left == right ? 0 : 1);
                blind.dab(0, true, 0, 7, left);
                Check.same("swapped " + left + " and " + right, blind.swap(0),
                        left == right ? 0 : 1);
            }
        }
    }

    private static void askingChangesNothing() {
        Twins.unchanged("asking what is there", Twins::used, blind -> {
            Blinds.all(blind);
            blind.slatAt(2);
            blind.common();
            blind.setting(9);
            blind.errorCode();
            blind.errorPosition();
        });
    }
}
