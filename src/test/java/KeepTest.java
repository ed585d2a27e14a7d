/** Promises 44 to 48, and what can be undone: reports, undo, a saved state. */
public final class KeepTest {
    private static final int NONE = BambooBlind.NONE;

    private static final String TEXT = "high 2;coats 3;slat 6;slat 3 right 2;slat 2 left 1;"
            + "box left 0 0 11 1 1;box left 0 1 11 1 2;box right 0 0 11 2 5;";

    /** Something that is done with a blind. */
    private interface Change {
        void of(BambooBlind blind);
    }

    private KeepTest() {
    }

    public static void main(String[] args) {
        report();
        reportOfTheWidest();
        reportByte();
        undo();
        undoOfEachChange();
        undoOfSix();
        undoKeepsOthers();
        whatIsNotUndone();
        save();
        restore();
        restoreForgetsUndo();
        Check.end();
    }

    // Promise 44
    private static void report() {
        BambooBlind blind = Blinds.of(TEXT);
        Check.same("bytes of a report", blind.report(6), 24);
        Check.same("report from 6", Blinds.report(blind, 24), "5555...55||\n5555...55||\n");
        blind.dab(0, false, 1, 1, 0);
        blind.dab(0, false, 2, 0, 9);
        Check.same("the report stays", blind.reportByte(0), '5');
        Check.same("bytes of another report", blind.report(-6), 24);
        Check.same("report from -6", Blinds.report(blind, 24), "1191..111||\n2022..222||\n");
        Check.noValue("report from 7", () -> blind.report(7));
        Check.noValue("report from -7", () -> blind.report(-7));
        Check.same("it stays then", Blinds.report(blind, 24), "1191..111||\n2022..222||\n");
        BambooBlind none = new BambooBlind();
        Check.same("bytes without columns", none.report(0), 4);
        Check.same("report without columns", Blinds.report(none, 4), "\n\n\n\n");
        Check.noValue("report without columns from 7", () -> none.report(7));
        Check.same("no change", blind.setting(9), 2);
    }

    private static void reportOfTheWidest() {
        BambooBlind blind = Blinds.of("high 8;box right 0 0 64 64 9;" + "slat 6;".repeat(10));
        Check.same("bytes of the widest", blind.report(6), 488);
        Check.same("report of the widest", Blinds.report(blind, 488),
                ("9".repeat(60) + "\n").repeat(8));
        Check.noPlace("behind the widest", () -> blind.reportByte(488));
        Blinds.read(blind, "high 1;slat 1;");
        Check.same("its report stays", blind.reportByte(487), 10);
        Check.same("a short report", blind.report(6), 2);
        Check.noPlace("behind the short one", () -> blind.reportByte(2));
    }

    // Promise 45
    private static void reportByte() {
        BambooBlind blind = Blinds.of(TEXT);
        Check.noPlace("no report", () -> blind.reportByte(0));
        Check.noPlace("no report at -1", () -> blind.reportByte(-1));
        blind.report(6);
        Check.same("a digit", blind.reportByte(0), 53);
        Check.same("a full stop", blind.reportByte(4), 46);
        Check.same("a vertical bar", blind.reportByte(10), 124);
        Check.same("a line feed", blind.reportByte(11), 10);
        Check.same("the last byte", blind.reportByte(23), 10);
        Check.noPlace("byte 24", () -> blind.reportByte(24));
        Check.noPlace("byte -1", () -> blind.reportByte(-1));
        Check.noPlace("the lowest byte", () -> blind.reportByte(Integer.MIN_VALUE));
        Check.noPlace("the highest byte", () -> blind.reportByte(Integer.MAX_VALUE));
    }

    // Promise 46
    private static void undo() {
        BambooBlind blind = Blinds.of(TEXT);
        Check.same("nothing to undo", blind.undo(), NONE);
        blind.turn(0, 3);
        blind.turn(0, 4);
        blind.pull(-2);
        Check.same("undo pull", blind.undo(), 2);
        Check.same("turns before pull", Blinds.ofSlats(blind, 2), "4 2 -1");
        Check.same("undo turn", blind.undo(), 1);
        Check.same("turns before turn", Blinds.ofSlats(blind, 2), "3 2 -1");
        Check.same("another change", blind.pull(1), 3);
        Check.same("undo it", blind.undo(), 1);
        Check.same("undo the first turn", blind.undo(), 0);
        Check.same("all is as before", Blinds.all(blind), Blinds.all(Blinds.of(TEXT)));
        Check.same("nothing more to undo", blind.undo(), NONE);
        Check.same("nothing changes then", Blinds.all(blind), Blinds.all(Blinds.of(TEXT)));
    }

    private static void undoOfEachChange() {
        undone("pull", blind -> blind.pull(3));
        undone("turn", blind -> blind.turn(1, -4));
        undone("turn to the same", blind -> blind.turn(0, 0));
        undone("tie", blind -> blind.tie(0, true));
        undone("free", blind -> blind.tie(2, false));
        undone("paint", blind -> blind.paint(0, true));
        undone("paint left", blind -> blind.paint(0, false));
        undone("dab", blind -> blind.dab(1, true, 2, 1, 8));
        undone("dab left", blind -> blind.dab(1, false, 0, 0, 8));
        undone("dab the same", blind -> blind.dab(2, false, 0, 0, 1));
        undone("swap", blind -> blind.swap(1));
        undone("spot", blind -> blind.spot(true, 10, 1, 8));
        undone("spot left", blind -> blind.spot(false, 0, 0, 0));
        undone("runScript", blind -> Blinds.run(blind, "swap 0;pull left 8;paint 2 right;"));
        undone("an empty runScript", BambooBlind::runScript);
    }

    private static void undone(String what, Change change) {
        BambooBlind blind = Blinds.of(TEXT);
        blind.tie(2, true);
        blind.dab(0, true, 3, 0, 4);
        blind.paint(1, false);
        String before = Blinds.all(blind);
        change.of(blind);
        Check.same("it can be undone: " + what, blind.setting(9), 4);
        Check.same("undo of " + what, blind.undo(), 3);
        Check.same("all is as before " + what, Blinds.all(blind), before);
    }

    private static void undoOfSix() {
        BambooBlind blind = Blinds.of("high 1;slat 1;");
        for (int colour = 1; colour <= 9; colour++) {
            blind.dab(0, true, 0, 0, colour);
            Check.same("calls to undo", blind.setting(9), Math.min(6, colour));
        }
        for (int left = 5; left >= 0; left--) {
            Check.same("undo the latest", blind.undo(), left);
            Check.same("the colour before", blind.face(0, true, 0, 0), left + 3);
        }
        Check.same("the seventh is forgotten", blind.undo(), NONE);
        Check.same("its colour stays", blind.face(0, true, 0, 0), 3);
    }

    private static void undoKeepsOthers() {
        BambooBlind blind = Blinds.of(TEXT);
        blind.turn(0, 1);
        blind.save();
        blind.report(6);
        Blinds.feed(blind, "pull");
        Check.noValue("a wrong script", blind::runScript);
        Blinds.feed(blind, "slat 1;slat 2;");
        Check.same("undo", blind.undo(), 0);
        Check.same("the code stays", blind.errorCode(), 1);
        Check.same("the position stays", blind.errorPosition(), 4);
        Check.same("the report stays", blind.reportByte(8), '5');
        Check.same("the buffer stays", blind.truncate(7), 7);
        Check.same("what is saved stays", blind.restore(), 3);
        Check.same("the saved turn", blind.slat(0, 2), 1);
        Check.same("the text of the buffer", blind.readText(), 1);
    }

    private static void whatIsNotUndone() {
        BambooBlind blind = Blinds.of(TEXT);
        Check.same("tie as it is", blind.tie(0, false), false);
        blind.save();
        blind.report(0);
        Blinds.feed(blind, "pull");
        Check.noValue("a wrong script", blind::runScript);
        Check.noState("no coat more", () -> Blinds.of("coats 1;slat 1;").paint(0, true));
        Check.noValue("a wrong turn", () -> blind.turn(0, 5));
        Check.same("nothing to undo", blind.setting(9), 0);
        blind.swap(0);
        Blinds.read(blind, TEXT);
        Check.same("readText forgets", blind.undo(), NONE);
    }

    // Promise 47
    private static void save() {
        BambooBlind blind = Blinds.of(TEXT);
        Check.same("save", blind.save(), 3);
        Check.same("save without slats", new BambooBlind().save(), 0);
        blind.turn(0, 1);
        Check.same("it is no change", blind.setting(9), 1);
        Check.same("save again", blind.save(), 3);
        Check.same("what can be undone stays", blind.setting(9), 1);
        blind.turn(0, 2);
        blind.restore();
        Check.same("in place of the earlier one", blind.slat(0, 2), 1);
    }

    // Promise 48
    private static void restore() {
        BambooBlind blind = Blinds.of(TEXT);
        Check.noState("nothing was saved", blind::restore);
        blind.tie(1, true);
        blind.dab(0, true, 5, 1, 8);
        blind.spot(false, 3, 1, 7);
        blind.paint(2, true);
        blind.swap(2);
        String before = Blinds.all(blind);
        blind.save();
        blind.tie(1, false);
        blind.dab(0, true, 5, 1, 0);
        blind.spot(true, 3, 1, 7);
        blind.paint(2, true);
        blind.pull(4);
        Check.same("restore", blind.restore(), 3);
        Check.same("all is as it was saved", Blinds.all(blind), before);
        Blinds.read(blind, "high 8;slat 1;");
        Check.same("restore behind a text", blind.restore(), 3);
        Check.same("all is as it was saved then", Blinds.all(blind), before);
        BambooBlind none = new BambooBlind();
        none.save();
        Blinds.read(none, TEXT);
        Check.same("restore nothing", none.restore(), 0);
        Check.same("all of nothing", Blinds.all(none), Blinds.all(new BambooBlind()));
    }

    private static void restoreForgetsUndo() {
        BambooBlind blind = Blinds.of(TEXT);
        blind.turn(0, 1);
        Check.noState("nothing was saved", blind::restore);
        Check.same("undo stays with an exception", blind.setting(9), 1);
        blind.save();
        blind.report(6);
        Blinds.feed(blind, "pull");
        Check.noValue("a wrong script", blind::runScript);
        Blinds.feed(blind, "slat 1;");
        blind.restore();
        Check.same("undo is forgotten", blind.setting(9), 0);
        Check.same("nothing to undo", blind.undo(), NONE);
        Check.same("the saved turn", blind.slat(0, 2), 1);
        Check.same("the report stays", blind.reportByte(8), '5');
        Check.same("the code stays", blind.errorCode(), 1);
        Check.same("the position stays", blind.errorPosition(), 4);
        Check.same("the buffer stays", blind.readText(), 1);
    }
}
