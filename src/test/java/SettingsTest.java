/** Promises 8 to 13: what is there. */
public final class SettingsTest {
    private static final String TEXT = "high 3;coats 2;slat 2 right 1;slat 4 left 2;slat 1 right 2;"
            + "slat 3 right 2;box left 0 0 5 2 1;box right 3 1 9 9 7;box right 0 0 1 1 1;";

    private SettingsTest() {
    }

    public static void main(String[] args) {
        setting();
        slat();
        slatOfChangedFaces();
        slatAt();
        picture();
        face();
        common();
        Check.end();
    }

    // Promise 8
    private static void setting() {
        BambooBlind blind = Blinds.of(TEXT);
        int[] due = {4, 3, 10, 1, 2, 2, 0, 1, 1, 0};
        for (int what = 0; what < due.length; what++) {
            Check.same("setting " + what, blind.setting(what), due[what]);
        }
        blind.tie(3, true);
        blind.tie(1, true);
        blind.spot(false, 9, 2, 0);
        blind.turn(0, -3);
        Check.same("left boxes with a spot", blind.setting(3), 2);
        Check.same("right boxes without it", blind.setting(4), 2);
        Check.same("tied slats", blind.setting(6), 2);
        Check.same("seams that cover", blind.setting(7), 0);
        Check.same("seams that open", blind.setting(8), 2);
        Check.same("changes to undo", blind.setting(9), 4);
        Check.noValue("setting 10", () -> blind.setting(10));
        Check.noValue("setting -1", () -> blind.setting(-1));
        Check.noValue("lowest setting", () -> blind.setting(Integer.MIN_VALUE));
        Check.noValue("highest setting", () -> blind.setting(Integer.MAX_VALUE));
    }

    // Promise 9
    private static void slat() {
        BambooBlind blind = Blinds.of(TEXT);
        blind.tie(2, true);
        Check.same("columns of slats", Blinds.ofSlats(blind, 0), "2 4 1 3");
        Check.same("first columns of slats", Blinds.ofSlats(blind, 1), "0 2 6 7");
        Check.same("turns of slats", Blinds.ofSlats(blind, 2), "1 -2 2 2");
        Check.same("ties of slats", Blinds.ofSlats(blind, 3), "0 0 1 0");
        Check.same("coats of left faces", Blinds.ofSlats(blind, 4), "1 1 1 1");
        Check.same("coats of right faces", Blinds.ofSlats(blind, 5), "1 1 1 1");
        Check.same("wrong cells of left faces", Blinds.ofSlats(blind, 6), "0 0 0 0");
        Check.same("wrong cells of right faces", Blinds.ofSlats(blind, 7), "0 0 0 0");
        Check.noPlace("slat 4", () -> blind.slat(4, 0));
        Check.noPlace("slat -1", () -> blind.slat(-1, 0));
        Check.noPlace("lowest slat", () -> blind.slat(Integer.MIN_VALUE, 0));
        Check.noPlace("highest slat", () -> blind.slat(Integer.MAX_VALUE, 0));
        Check.noPlace("slat before what", () -> blind.slat(4, 8));
        Check.noValue("what 8", () -> blind.slat(3, 8));
        Check.noValue("what -1", () -> blind.slat(0, -1));
    }

    private static void slatOfChangedFaces() {
        BambooBlind blind = Blinds.of(TEXT);
        blind.paint(1, false);
        blind.paint(2, true);
        blind.dab(1, false, 3, 2, 4);
        blind.dab(1, false, 0, 0, 4);
        blind.dab(3, true, 0, 0, 8);
        Check.same("coats of painted left faces", Blinds.ofSlats(blind, 4), "1 2 1 1");
        Check.same("coats of painted right faces", Blinds.ofSlats(blind, 5), "1 1 2 1");
        Check.same("dabbed left faces", Blinds.ofSlats(blind, 6), "0 2 0 0");
        Check.same("dabbed right faces", Blinds.ofSlats(blind, 7), "0 0 0 1");
        blind.swap(0);
        blind.swap(1);
        Check.same("swapped coats of left faces", Blinds.ofSlats(blind, 4), "1 1 1 1");
        Check.same("swapped coats of right faces", Blinds.ofSlats(blind, 5), "1 2 2 1");
        // Left picture 11/11/00, right picture 10/00/00.
        Check.same("left face 0 behind swap", blind.slat(0, 6), 3);
        Check.same("right face 0 behind swap", blind.slat(0, 7), 3);
    }

    // Promise 10
    private static void slatAt() {
        BambooBlind blind = Blinds.of(TEXT);
        int[] due = {0, 0, 1, 1, 1, 1, 2, 3, 3, 3};
        for (int column = 0; column < due.length; column++) {
            Check.same("slat at " + column, blind.slatAt(column), due[column]);
        }
        Check.noPlace("slat at 10", () -> blind.slatAt(10));
        Check.noPlace("slat at -1", () -> blind.slatAt(-1));
        Check.noPlace("slat at the highest", () -> blind.slatAt(Integer.MAX_VALUE));
        Check.noPlace("slat without columns", () -> new BambooBlind().slatAt(0));
    }

    // Promise 11
    private static void picture() {
        BambooBlind blind = Blinds.of(TEXT);
        Check.same("left picture", Blinds.picture(blind, false),
                "1111100000/1111100000/0000000000");
        Check.same("right picture", Blinds.picture(blind, true),
                "1000000000/0007777777/0007777777");
        Check.noPlace("column 10 of a picture", () -> blind.picture(false, 10, 0));
        Check.noPlace("column -1 of a picture", () -> blind.picture(false, -1, 0));
        Check.noPlace("row 3 of a picture", () -> blind.picture(true, 0, 3));
        Check.noPlace("row -1 of a picture", () -> blind.picture(true, 0, -1));
        Check.noPlace("a picture of nothing", () -> new BambooBlind().picture(true, 0, 0));
    }

    // Promise 12
    private static void face() {
        BambooBlind blind = Blinds.of(TEXT);
        Check.same("left face 1", Blinds.face(blind, 1, false), "1110/1110/0000");
        Check.same("right face 1", Blinds.face(blind, 1, true), "0000/0777/0777");
        Check.same("right face 3", Blinds.face(blind, 3, true), "000/777/777");
        blind.spot(true, 4, 2, 2);
        blind.dab(1, true, 3, 1, 9);
        Check.same("right face 1 behind dab", Blinds.face(blind, 1, true), "0000/0779/0777");
        Check.noPlace("slat 4 of faces", () -> blind.face(4, false, 0, 0));
        Check.noPlace("slat -1 of faces", () -> blind.face(-1, false, 0, 0));
        Check.noPlace("column 4 of a face", () -> blind.face(1, false, 4, 0));
        Check.noPlace("column 1 of a face", () -> blind.face(2, false, 1, 0));
        Check.noPlace("column -1 of a face", () -> blind.face(1, true, -1, 0));
        Check.noPlace("row 3 of a face", () -> blind.face(1, true, 0, 3));
        Check.noPlace("row -1 of a face", () -> blind.face(1, true, 0, -1));
    }

    // Promise 13
    private static void common() {
        BambooBlind blind = Blinds.of(TEXT);
        // Row 0: columns 0 and 5 to 9; row 1: none; row 2: columns 0 to 2.
        Check.same("common", blind.common(), 6 + 0 + 3);
        blind.spot(true, 9, 1, 0);
        Check.same("common with a spot", blind.common(), 10);
        blind.dab(3, false, 0, 2, 7);
        Check.same("faces do not count for common", blind.common(), 10);
        Check.same("common without boxes", Blinds.of("high 8;slat 6;").common(), 48);
        Check.same("nothing in common",
                Blinds.of("slat 2;box left 0 0 2 4 8;box right 0 0 2 4 9;").common(), 0);
    }
}
