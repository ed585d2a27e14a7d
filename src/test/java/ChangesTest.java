/** Promises 37 to 43: changes. */
public final class ChangesTest {
    private static final String TEXT = "high 2;coats 3;slat 1 left 3;slat 2;slat 3 right 4;"
            + "box left 0 0 6 1 1;box left 2 0 1 2 3;box right 0 1 6 1 2;";

    private ChangesTest() {
    }

    public static void main(String[] args) {
        pull();
        pullOutOfRange();
        turn();
        tie();
        paint();
        paintBeyondTheCoats();
        dab();
        swap();
        spot();
        spotBeyondTheBoxes();
        thrownChangesNothing();
        Check.end();
    }

    // Promise 37
    private static void pull() {
        BambooBlind blind = Blinds.of(TEXT);
        Check.same("pull by 2", blind.pull(2), 2);
        Check.same("turns", Blinds.ofSlats(blind, 2), "-1 2 4");
        Check.same("pull by 3", blind.pull(3), 2);
        Check.same("turns at the right end", Blinds.ofSlats(blind, 2), "2 4 4");
        blind.tie(1, true);
        Check.same("pull by -5", blind.pull(-5), 2);
        Check.same("a tied slat stays", Blinds.ofSlats(blind, 2), "-3 4 -1");
        Check.same("pull by -8", blind.pull(-8), 2);
        Check.same("turns at the left end", Blinds.ofSlats(blind, 2), "-4 4 -4");
        Check.same("no slat turns", blind.pull(-1), 0);
        Check.same("it can be undone yet", blind.setting(9), 6);
        blind.tie(1, false);
        Check.same("pull by 8", blind.pull(8), 2);
        Check.same("turns by 8", Blinds.ofSlats(blind, 2), "4 4 4");
        Check.same("pull without slats", new BambooBlind().pull(1), 0);
    }

    private static void pullOutOfRange() {
        BambooBlind blind = Blinds.of(TEXT);
        Check.noValue("pull by 0", () -> blind.pull(0));
        Check.noValue("pull by 9", () -> blind.pull(9));
        Check.noValue("pull by -9", () -> blind.pull(-9));
        Check.noValue("pull by the lowest", () -> blind.pull(Integer.MIN_VALUE));
        Check.noValue("pull by the highest", () -> blind.pull(Integer.MAX_VALUE));
    }

    // Promise 38
    private static void turn() {
        BambooBlind blind = Blinds.of(TEXT);
        Check.same("turn to 4", blind.turn(0, 4), -3);
        Check.same("turn to -4", blind.turn(0, -4), 4);
        Check.same("turn to the same", blind.turn(0, -4), -4);
        Check.same("turn another one", blind.turn(2, 1), 4);
        Check.same("turns", Blinds.ofSlats(blind, 2), "-4 0 1");
        blind.tie(0, true);
        Check.noState("turn a tied slat", () -> blind.turn(0, 0));
        Check.noState("turn a tied slat to the same", () -> blind.turn(0, -4));
        Check.noValue("turn a tied slat to 5", () -> blind.turn(0, 5));
        Check.noValue("turn to 5", () -> blind.turn(1, 5));
        Check.noValue("turn to -5", () -> blind.turn(1, -5));
        Check.noPlace("turn slat 3 to 5", () -> blind.turn(3, 5));
        Check.noPlace("turn slat -1", () -> blind.turn(-1, 0));
        Check.noPlace("turn slat 3", () -> blind.turn(3, 0));
        blind.tie(0, false);
        Check.same("turn a freed slat", blind.turn(0, 0), -4);
    }

    // Promise 39
    private static void tie() {
        BambooBlind blind = Blinds.of(TEXT);
        Check.same("free a free slat", blind.tie(1, false), false);
        Check.same("nothing to undo", blind.setting(9), 0);
        Check.same("tie", blind.tie(1, true), true);
        Check.same("ties", Blinds.ofSlats(blind, 3), "0 1 0");
        Check.same("tie a tied slat", blind.tie(1, true), false);
        Check.same("ties then", Blinds.ofSlats(blind, 3), "0 1 0");
        Check.same("one call to undo", blind.setting(9), 1);
        Check.same("tie another slat", blind.tie(2, true), true);
        Check.same("free", blind.tie(1, false), true);
        Check.same("ties at last", Blinds.ofSlats(blind, 3), "0 0 1");
        Check.same("free a freed slat", blind.tie(1, false), false);
        Check.noPlace("tie slat 3", () -> blind.tie(3, true));
        Check.noPlace("free slat 3", () -> blind.tie(3, false));
        Check.noPlace("tie slat -1", () -> blind.tie(-1, true));
        Check.noPlace("free slat 32", () -> blind.tie(34, false));
    }

    // Promise 40
    private static void paint() {
        BambooBlind blind = Blinds.of(TEXT);
        blind.dab(1, false, 0, 0, 9);
        blind.dab(1, false, 1, 1, 9);
        blind.dab(1, true, 1, 1, 9);
        Check.same("paint", blind.paint(1, false), 2);
        Check.same("the painted face", Blinds.face(blind, 1, false), "13/03");
        Check.same("the other face", Blinds.face(blind, 1, true), "00/29");
        Check.same("coats", Blinds.ofSlats(blind, 4), "1 2 1");
        Check.same("coats of the other face", Blinds.ofSlats(blind, 5), "1 1 1");
        Check.same("paint the right face", blind.paint(1, true), 1);
        Check.same("the right face", Blinds.face(blind, 1, true), "00/22");
        Check.same("coats of the right face", Blinds.ofSlats(blind, 5), "1 2 1");
        blind.spot(true, 5, 0, 7);
        Check.same("paint with a spot", blind.paint(2, true), 1);
        Check.same("the spot", Blinds.face(blind, 2, true), "007/222");
        Check.same("paint the same", blind.paint(2, true), 0);
        Check.same("coats of the same", Blinds.ofSlats(blind, 5), "1 2 3");
        Check.noPlace("paint slat 3", () -> blind.paint(3, true));
        Check.noPlace("paint slat -1", () -> blind.paint(-1, true));
    }

    private static void paintBeyondTheCoats() {
        BambooBlind blind = Blinds.of(TEXT);
        blind.paint(0, true);
        blind.paint(0, true);
        blind.dab(0, true, 0, 0, 9);
        Check.noState("a coat more than it bears", () -> blind.paint(0, true));
        Check.same("the face stays", blind.face(0, true, 0, 0), 9);
        Check.same("the other face", blind.paint(0, false), 0);
        Check.same("another slat", blind.paint(1, true), 0);
        Check.noState("one coat is all", () -> Blinds.of("coats 1;slat 1;").paint(0, false));
        BambooBlind usual = Blinds.of("slat 1;");
        for (int coat = 2; coat <= 9; coat++) {
            Check.same("coat " + coat, usual.paint(0, false), 0);
        }
        Check.same("9 coats", usual.slat(0, 4), 9);
        Check.noState("a 10th coat", () -> usual.paint(0, false));
    }

    // Promise 41
    private static void dab() {
        BambooBlind blind = Blinds.of(TEXT);
        Check.same("dab", blind.dab(1, false, 1, 0, 9), 3);
        Check.same("dab again", blind.dab(1, false, 1, 0, 0), 9);
        Check.same("dab the other face", blind.dab(1, true, 1, 1, 5), 2);
        Check.same("left face", Blinds.face(blind, 1, false), "10/03");
        Check.same("right face", Blinds.face(blind, 1, true), "00/25");
        Check.same("left picture", Blinds.picture(blind, false), "113111/003000");
        Check.same("coats", Blinds.ofSlats(blind, 4), "1 1 1");
        Check.same("dab the same", blind.dab(1, true, 1, 1, 5), 5);
        Check.same("it can be undone", blind.setting(9), 4);
        Check.noValue("colour 10", () -> blind.dab(1, true, 0, 0, 10));
        Check.noValue("colour -1", () -> blind.dab(1, true, 0, 0, -1));
        Check.noPlace("slat 3", () -> blind.dab(3, true, 0, 0, 1));
        Check.noPlace("slat -1", () -> blind.dab(-1, true, 0, 0, 1));
        Check.noPlace("column 2", () -> blind.dab(1, true, 2, 0, 1));
        Check.noPlace("column -1", () -> blind.dab(1, true, -1, 0, 1));
        Check.noPlace("row 2", () -> blind.dab(1, true, 0, 2, 1));
        Check.noPlace("row -1", () -> blind.dab(1, true, 0, -1, 1));
        Check.noPlace("row 2 of colour 10", () -> blind.dab(1, true, 0, 2, 10));
    }

    // Promise 42
    private static void swap() {
        BambooBlind blind = Blinds.of(TEXT);
        blind.paint(1, true);
        blind.dab(1, true, 0, 0, 1);
        // Left face 13/03, right face 10/22.
        Check.same("swap", blind.swap(1), 3);
        Check.same("left face", Blinds.face(blind, 1, false), "10/22");
        Check.same("right face", Blinds.face(blind, 1, true), "13/03");
        Check.same("coats of left faces", Blinds.ofSlats(blind, 4), "1 2 1");
        Check.same("coats of right faces", Blinds.ofSlats(blind, 5), "1 1 1");
        Check.same("another slat stays", Blinds.face(blind, 2, false), "111/000");
        Check.same("swap back", blind.swap(1), 3);
        Check.same("left face then", Blinds.face(blind, 1, false), "13/03");
        Check.same("coats of right faces then", Blinds.ofSlats(blind, 5), "1 2 1");
        Check.same("swap like faces", Blinds.of("slat 4;").swap(0), 0);
        Check.noPlace("swap slat 3", () -> blind.swap(3));
        Check.noPlace("swap slat -1", () -> blind.swap(-1));
    }

    // Promise 43
    private static void spot() {
        BambooBlind blind = Blinds.of(TEXT);
        Check.same("spot", blind.spot(false, 2, 0, 8), 4);
        Check.same("left picture", Blinds.picture(blind, false), "118111/003000");
        Check.same("spot of colour 0", blind.spot(false, 0, 0, 0), 5);
        Check.same("left picture then", Blinds.picture(blind, false), "018111/003000");
        Check.same("spot of the right picture", blind.spot(true, 5, 1, 9), 6);
        Check.same("right picture", Blinds.picture(blind, true), "000000/222229");
        Check.same("spot on a spot", blind.spot(true, 5, 1, 1), 7);
        Check.same("right picture then", Blinds.picture(blind, true), "000000/222221");
        Check.same("left boxes", blind.setting(3), 4);
        Check.same("right boxes", blind.setting(4), 3);
        Check.same("faces stay", Blinds.face(blind, 1, false), "13/03");
        Check.noPlace("column 6", () -> blind.spot(true, 6, 0, 1));
        Check.noPlace("column -1", () -> blind.spot(true, -1, 0, 1));
        Check.noPlace("row 2", () -> blind.spot(true, 0, 2, 1));
        Check.noPlace("row -1", () -> blind.spot(true, 0, -1, 1));
        Check.noPlace("row 2 of colour 10", () -> blind.spot(true, 0, 2, 10));
        Check.noValue("colour 10", () -> blind.spot(true, 0, 0, 10));
        Check.noValue("colour -1", () -> blind.spot(true, 0, 0, -1));
    }

    private static void spotBeyondTheBoxes() {
        BambooBlind blind = Blinds.of(TEXT);
        for (int boxes = 4; boxes <= 16; boxes++) {
            Check.same("spot " + boxes, blind.spot(boxes % 2 == 0, 0, 0, 5), boxes);
        }
        Check.noState("a 17th box", () -> blind.spot(true, 0, 0, 6));
        Check.noState("a 17th box of the other picture", () -> blind.spot(false, 0, 0, 6));
        Check.noValue("a 17th box of colour 10", () -> blind.spot(true, 0, 0, 10));
        Check.noPlace("a 17th box at column 6", () -> blind.spot(true, 6, 0, 1));
        Check.same("the picture stays", blind.picture(true, 0, 0), 5);
        blind.undo();
        Check.same("one less", blind.spot(true, 0, 0, 6), 16);
    }

    private static void thrownChangesNothing() {
        BambooBlind blind = Blinds.of(TEXT);
        blind.tie(1, true);
        String before = Blinds.all(blind);
        Check.noValue("pull", () -> blind.pull(9));
        Check.noState("turn", () -> blind.turn(1, 2));
        Check.noPlace("paint", () -> blind.paint(3, true));
        Check.noValue("dab", () -> blind.dab(0, true, 0, 0, 10));
        Check.noPlace("swap", () -> blind.swap(3));
        Check.noValue("spot", () -> blind.spot(true, 0, 0, 10));
        Check.same("all stays", Blinds.all(blind), before);
        Check.same("nothing more to undo", blind.setting(9), 1);
    }
}
