/**
 * The bounds of reports, of what can be undone and of what is saved: "Undo" of the terms, and
 * promises 44 to 48. The sentence that a test stands for is told above it.
 */
public final class KeepBoundsTest {
    private static final int NONE = BambooBlind.NONE;
    private static final String LARGEST = "high 8;" + "slat 6;".repeat(10)
            + "box left 0 0 60 8 1;box right 0 0 60 8 2;";
    private static final String ONE = "high 1;slat 1;";
    private static final String TEXT = "high 2;coats 2;slat 2 right 1;slat 1;box left 0 0 9 9 3;"
            + "box right 1 0 1 1 5;";

    private KeepBoundsTest() {
    }

    public static void main(String[] args) {
        reportRefused();
        reportWithoutColumns();
        reportOfTheSmallest();
        reportOfTheLargest();
        reportSigns();
        reportInPlaceOfTheOneBefore();
        reportByteRefused();
        reportByteBounds();
        reportIsNoChange();
        undoOfNothing();
        undoOfSeven();
        undoRoundTheEnd();
        undoOfEachChange();
        changesKeepTheRest();
        scriptsKeepTheRest();
        undoOfScripts();
        undoKeepsTheRest();
        whatIsNoChange();
        readTextForgets();
        restoreForgets();
        saveAnswersTheSlats();
        saveChangesNothing();
        saveInPlaceOfAnEarlierOne();
        saveIsKept();
        restoreRefused();
        restoreAll();
        restoreKeepsTheRest();
        restoreAgain();
        answers512Calls();
        Check.end();
    }

    // "A parameter angle is -6 to 6; otherwise IllegalArgumentException is thrown"
    private static void reportRefused() {
        for (int angle : new int[] {-7, 7, Integer.MIN_VALUE, Integer.MAX_VALUE}) {
            Twins.noValue("report from " + angle, Twins::used, blind -> blind.report(angle));
            Twins.noValue("report of nothing from " + angle, BambooBlind::new,
                    blind -> blind.report(angle));
        }
        Check.same("report from 6", Twins.used().report(6), 8);
        Check.same("report from -6", Twins.used().report(-6), 8);
    }

    // Promise 44: "for each row a line: [...] and a line feed"
    private static void reportWithoutColumns() {
        for (int rows = 1; rows <= 8; rows++) {
            BambooBlind blind = Blinds.of("high " + rows + ";");
            Check.same("bytes without columns", blind.report(0), rows);
            Check.same("lines without columns", State.report(blind), "\n".repeat(rows) + "end");
        }
        BambooBlind none = new BambooBlind();
        Check.same("bytes of nothing", none.report(-6), 4);
        Check.same("lines of nothing", State.report(none), "\n\n\n\nend");
    }

    private static void reportOfTheSmallest() {
        BambooBlind blind = Blinds.of(ONE);
        Check.same("bytes of the smallest", blind.report(0), 2);
        Check.same("report of the smallest", State.report(blind), ".\nend");
        Check.same("bytes from the side", blind.report(1), 2);
        Check.same("report from the side", State.report(blind), "0\nend");
    }

    private static void reportOfTheLargest() {
        BambooBlind blind = Blinds.of(LARGEST);
        Check.same("bytes of the largest", blind.report(6), 488);
        for (int i = 0; i < 488; i++) {
            Check.same("byte " + i, blind.reportByte(i), i % 61 == 60 ? 10 : '2');
        }
        Check.noPlace("behind it", () -> blind.reportByte(488));
    }

    // "the colour as a digit, a full stop (byte 46) if it is open, a vertical bar (byte 124) if it
    // is covered; and a line feed"
    private static void reportSigns() {
        for (int colour = 0; colour <= 9; colour++) {
            BambooBlind blind = Blinds.of("high 2;slat 2;slat 1 left 1;");
            blind.dab(0, true, 1, 1, colour);
            Check.same("bytes", blind.report(1), 8);
            int[] due = {46, 48, 124, 10, 46, 48 + colour, 124, 10};
            for (int i = 0; i < due.length; i++) {
                Check.same("sign " + i, blind.reportByte(i), due[i]);
            }
        }
    }

    // "Writes a report, in place of the one before"
    private static void reportInPlaceOfTheOneBefore() {
        BambooBlind blind = Blinds.of(LARGEST);
        blind.report(6);
        Blinds.read(blind, ONE);
        Check.same("a shorter one", blind.report(0), 2);
        Check.same("nothing behind it", State.report(blind), ".\nend");
        Blinds.read(blind, "high 1;slat 2;");
        Check.same("a longer one", blind.report(6), 3);
        Check.same("all of it", State.report(blind), "00\nend");
        Check.noValue("a refused one", () -> blind.report(7));
        Check.same("the one before stays", State.report(blind), "00\nend");
        blind.dab(0, true, 1, 0, 7);
        Check.same("it is written once", State.report(blind), "00\nend");
    }

    // Promise 45: "Throws IndexOutOfBoundsException if there is no such byte, or there was no
    // report"
    private static void reportByteRefused() {
        for (int i : new int[] {-1, 8, Integer.MIN_VALUE, Integer.MAX_VALUE}) {
            Twins.noPlace("byte " + i, Twins::used, blind -> blind.reportByte(i));
        }
        for (int i : new int[] {-1, 0, 1, 487, 488}) {
            Twins.noPlace("no report, byte " + i, () -> Blinds.of(TEXT),
                    blind -> blind.reportByte(i));
            Twins.noPlace("a new object, byte " + i, BambooBlind::new,
                    blind -> blind.reportByte(i));
        }
        BambooBlind refused = Blinds.of(TEXT);
        Check.noValue("a refused report", () -> refused.report(7));
        Check.noPlace("is none", () -> refused.reportByte(0));
    }

    private static void reportByteBounds() {
        BambooBlind blind = Twins.used();
        Check.same("the first byte", blind.reportByte(0), '3' - 3);
        Check.same("the last byte", blind.reportByte(7), 10);
        Check.noPlace("behind the last", () -> blind.reportByte(8));
        Check.noPlace("before the first", () -> blind.reportByte(-1));
    }

    private static void reportIsNoChange() {
        BambooBlind blind = Blinds.of(TEXT);
        blind.swap(0);
        blind.report(6);
        blind.reportByte(0);
        Check.same("it cannot be undone", blind.setting(9), 1);
        Check.same("all stays", Blinds.all(blind), swapped(TEXT, 0));
    }

    private static String swapped(String text, int slat) {
        BambooBlind blind = Blinds.of(text);
        blind.swap(slat);
        return Blinds.all(blind);
    }

    // Promise 46: "NONE, and nothing changes, if there is none"
    private static void undoOfNothing() {
        Twins.unchanged("undo of nothing", BambooBlind::new,
                blind -> Check.same("a new object", blind.undo(), NONE));
        Twins.unchanged("undo behind a text", () -> Blinds.of(TEXT),
                blind -> Check.same("a text", blind.undo(), NONE));
        Twins.unchanged("undo of too much", () -> {
            BambooBlind blind = Twins.used();
            blind.undo();
            blind.undo();
            blind.undo();
            return blind;
        }, blind -> {
            Check.same("too much", blind.undo(), NONE);
            Check.same("too much again", blind.undo(), NONE);
        });
    }

    // "the latest first; the latest 6 of them are kept"
    private static void undoOfSeven() {
        for (int changes = 0; changes <= 9; changes++) {
            BambooBlind blind = Blinds.of(ONE);
            for (int colour = 1; colour <= changes; colour++) {
                blind.dab(0, true, 0, 0, colour);
            }
            int kept = Math.min(6, changes);
            Check.same("changes that are kept", blind.setting(9), kept);
            for (int left = kept - 1; left >= 0; left--) {
                Check.same("undo, the latest first", blind.undo(), left);
                Check.same("as before it", blind.face(0, true, 0, 0), changes - kept + left);
            }
            Check.same("no more", blind.undo(), NONE);
            Check.same("as it was", blind.face(0, true, 0, 0), changes - kept);
        }
    }

    private static void undoRoundTheEnd() {
        for (int before = 0; before <= 14; before++) {
            BambooBlind blind = Blinds.of(ONE);
            for (int change = 0; change < before; change++) {
                blind.turn(0, change % 5);
            }
            for (int undone = 0; undone < before / 2; undone++) {
                blind.undo();
            }
            for (int colour = 1; colour <= 9; colour++) {
                blind.dab(0, true, 0, 0, colour);
            }
            Check.same("six are kept", blind.setting(9), 6);
            for (int left = 5; left >= 0; left--) {
                Check.same("undo of six", blind.undo(), left);
                Check.same("the colour before", blind.face(0, true, 0, 0), left + 3);
            }
            Check.same("no seventh", blind.undo(), NONE);
        }
    }

    // "Each call of a method below "changes" [...] that was done without an exception, and that did
    // not return false, can be undone"
    private static void undoOfEachChange() {
        undone("pull", blind -> blind.pull(-8));
        undone("pull of slats at the end", blind -> blind.turn(0, 4), blind -> blind.pull(8));
        undone("turn", blind -> blind.turn(0, -4));
        undone("turn to its turn", blind -> blind.turn(0, 1));
        undone("tie", blind -> blind.tie(0, true));
        undone("free", blind -> blind.tie(1, false));
        undone("paint", blind -> blind.paint(1, false));
        undone("paint that changes cells", blind -> blind.swap(0), blind -> blind.paint(0, true));
        undone("dab", blind -> blind.dab(0, true, 1, 1, 9));
        undone("dab of its colour", blind -> blind.dab(0, false, 1, 1, 3));
        undone("swap", blind -> blind.swap(0));
        undone("spot", blind -> blind.spot(true, 2, 1, 0));
        undone("spot of its colour", blind -> blind.spot(false, 0, 0, 3));
    }

    // The changes leave the report, the buffer, the error and what is saved as they are, and so
    // does undo.
    private static void changesKeepTheRest() {
        Twins.restUnchanged("pull", Twins::used, blind -> blind.pull(-8));
        Twins.restUnchanged("turn", Twins::used, blind -> blind.turn(0, -4));
        Twins.restUnchanged("tie", Twins::used, blind -> blind.tie(0, true));
        Twins.restUnchanged("free", Twins::used, blind -> blind.tie(1, false));
        Twins.restUnchanged("paint", Twins::used, blind -> blind.paint(0, false));
        Twins.restUnchanged("dab", Twins::used, blind -> blind.dab(0, true, 1, 1, 9));
        Twins.restUnchanged("swap", Twins::used, blind -> blind.swap(0));
        Twins.restUnchanged("spot", Twins::used, blind -> blind.spot(true, 2, 1, 9));
        Twins.restUnchanged("undo", Twins::used, BambooBlind::undo);
        Twins.restUnchanged("three undo and one too much", Twins::used, blind -> {
            for (int i = 0; i < 4; i++) {
                blind.undo();
            }
        });
    }

    // A script leaves the report and what is saved as they are.
    private static void scriptsKeepTheRest() {
        BambooBlind blind = Twins.used();
        BambooBlind other = Twins.used();
        blind.truncate(0);
        Check.same("a script", Blinds.run(blind, "swap 0;pull left 1;swap 2;"), 2);
        Check.same("the report stays", State.report(blind), State.report(other));
        Check.same("what is saved stays", blind.restore(), other.restore());
        Check.same("all of it", Blinds.all(blind), Blinds.all(other));
    }

    private static void undone(String what, Twins.Call change) {
        undone(what, blind -> blind.dab(1, true, 0, 0, 4), change);
    }

    /** Behind something else that stays, the change is undone. */
    private static void undone(String what, Twins.Call before, Twins.Call change) {
        BambooBlind blind = Blinds.of(TEXT);
        blind.tie(1, true);
        before.on(blind);
        String due = Blinds.all(blind);
        change.on(blind);
        Check.same("it can be undone: " + what, blind.setting(9), 3);
        Check.same("undo of " + what, blind.undo(), 2);
        Check.same("all is as before " + what, Blinds.all(blind), due);
    }

    // "each call of runScript() (as a whole, also if no command was done)"
    private static void undoOfScripts() {
        undone("an empty script", BambooBlind::runScript);
        undone("a script that ends at once", blind -> Blinds.run(blind, "swap 2;swap 0;"));
        undone("a command", blind -> Blinds.run(blind, "swap 0;"));
        undone("a script that ends early", blind -> Blinds.run(blind, "swap 0;free 0;swap 1;"));
        undone("40 commands", blind -> Blinds.run(blind, "repeat 20(swap 0;pull right 1;);swap 1;"));
        BambooBlind blind = Blinds.of(TEXT);
        for (int scripts = 1; scripts <= 8; scripts++) {
            blind.runScript();
            Check.same("empty scripts to undo", blind.setting(9), Math.min(6, scripts));
        }
    }

    // "All is as before it then but the report, the buffer, the error and what is saved."
    private static void undoKeepsTheRest() {
        BambooBlind blind = Blinds.of(TEXT);
        blind.turn(0, -1);
        blind.save();
        int bytes = blind.report(6);
        String report = State.report(blind);
        Blinds.feed(blind, "swap 0;#");
        Check.noValue("an error", blind::runScript);
        Blinds.feed(blind, "slat 5;");
        Check.same("undo", blind.undo(), 0);
        Check.same("the turn is undone", blind.slat(0, 2), 1);
        Check.same("the report stays", State.report(blind), report);
        Check.same("its bytes", report.length(), bytes + 3);
        Check.same("the code stays", blind.errorCode(), 1);
        Check.same("the position stays", blind.errorPosition(), 7);
        Check.same("the buffer stays", State.bufferLength(blind), 7);
        Check.same("what is saved stays", blind.restore(), 2);
        Check.same("the saved turn", blind.slat(0, 2), -1);
        Check.same("the text of the buffer", blind.readText(), 1);
    }

    private static void whatIsNoChange() {
        BambooBlind blind = Blinds.of(TEXT);
        blind.swap(1);
        blind.tie(0, false);
        blind.save();
        blind.report(0);
        blind.feed(0, 0, 0, 0, 0);
        blind.truncate(0);
        Blinds.feed(blind, "swap 0");
        Check.noValue("a script with an error", blind::runScript);
        Check.noValue("pull", () -> blind.pull(0));
        Check.noValue("turn", () -> blind.turn(0, 5));
        Check.noPlace("tie", () -> blind.tie(2, true));
        Check.noPlace("paint", () -> blind.paint(2, true));
        Check.noValue("dab", () -> blind.dab(0, true, 0, 0, 10));
        Check.noPlace("swap", () -> blind.swap(2));
        Check.noValue("spot", () -> blind.spot(true, 0, 0, 10));
        Check.same("one change yet", blind.setting(9), 1);
        Check.same("undo of it", blind.undo(), 0);
        Check.same("as before it", Blinds.all(blind), Blinds.all(Blinds.of(TEXT)));
    }

    // "readText() and restore() forget them."
    private static void readTextForgets() {
        BambooBlind blind = Twins.used();
        Check.same("a text", blind.readText(), 1);
        Check.same("nothing to undo behind a text", blind.undo(), NONE);
        blind.turn(0, 3);
        blind.readText();
        Check.same("nothing to undo behind an empty text", blind.undo(), NONE);
        BambooBlind refused = Twins.used();
        Blinds.feed(refused, "#");
        Check.noValue("a text with an error", refused::readText);
        Check.same("it forgets nothing", refused.setting(9), 3);
        Check.same("undo of the latest", refused.undo(), 2);
        Check.same("it is the tie", refused.slat(1, 3), 0);
    }

    private static void restoreForgets() {
        BambooBlind blind = Twins.used();
        blind.restore();
        Check.same("nothing to undo behind restore", blind.setting(9), 0);
        Check.same("no undo behind restore", blind.undo(), NONE);
        blind.turn(0, 3);
        Check.same("one change behind it", blind.setting(9), 1);
        Check.same("undo of it", blind.undo(), 0);
        Check.same("as it was restored", blind.slat(0, 2), 1);
        BambooBlind refused = Blinds.of(TEXT);
        refused.turn(0, 3);
        Check.noState("nothing was saved", refused::restore);
        Check.same("it forgets nothing", refused.undo(), 0);
    }

    // Promise 47: "the slats"
    private static void saveAnswersTheSlats() {
        for (int slats = 0; slats <= 10; slats++) {
            BambooBlind blind = Blinds.of("high 1;" + "slat 1;".repeat(slats));
            Check.same("slats that are saved", blind.save(), slats);
            blind.readText();
            Check.same("slats that are restored", blind.restore(), slats);
        }
        Check.same("a new object", new BambooBlind().save(), 0);
    }

    private static void saveChangesNothing() {
        BambooBlind blind = Twins.used();
        BambooBlind other = Twins.used();
        blind.restore();
        other.restore();
        blind.swap(0);
        other.swap(0);
        blind.save();
        Check.same("all but what is saved", Blinds.all(blind), Blinds.all(other));
        Check.same("what can be undone stays", blind.undo(), 0);
        Check.same("as before", blind.undo(), NONE);
        BambooBlind again = Twins.used();
        BambooBlind once = Twins.used();
        again.undo();
        once.undo();
        again.save();
        Check.same("the report stays", State.report(again), State.report(once));
        Check.same("the code stays", again.errorCode(), 1);
        Check.same("the position stays", again.errorPosition(), 4);
        Check.same("the buffer stays", State.bufferLength(again), 14);
        Check.same("the other changes stay", again.undo(), 1);
        Check.same("another state is saved", again.restore(), 2);
        Check.same("it has the second coat", again.slat(0, 5), 2);
    }

    // "in place of an earlier one"
    private static void saveInPlaceOfAnEarlierOne() {
        BambooBlind blind = Blinds.of(LARGEST);
        blind.save();
        blind.readText();
        Check.same("nothing at all is saved", blind.save(), 0);
        Blinds.read(blind, ONE);
        Check.same("in place of the largest", blind.restore(), 0);
        Check.same("nothing is restored", Blinds.all(blind), Blinds.all(new BambooBlind()));
    }

    // "what was saved, which stays"; "Saves all"
    private static void saveIsKept() {
        BambooBlind blind = Blinds.of(TEXT);
        blind.save();
        blind.pull(3);
        blind.tie(0, true);
        blind.swap(0);
        blind.spot(true, 0, 0, 9);
        blind.paint(0, true);
        blind.dab(1, false, 0, 1, 9);
        Blinds.run(blind, "swap 1;pull left 8;");
        Check.same("changes do not change it", blind.restore(), 2);
        Check.same("all is as it was saved", Blinds.all(blind), Blinds.all(Blinds.of(TEXT)));
        blind.pull(3);
        blind.undo();
        Check.same("nor does undo", blind.restore(), 2);
        Check.same("all yet", Blinds.all(blind), Blinds.all(Blinds.of(TEXT)));
    }

    // Promise 48: "Throws IllegalStateException if nothing was saved"
    private static void restoreRefused() {
        Twins.noState("a new object", BambooBlind::new, BambooBlind::restore);
        Twins.noState("a text and a change", () -> {
            BambooBlind blind = Blinds.of(TEXT);
            blind.swap(0);
            blind.report(3);
            Blinds.feed(blind, "slat 3;");
            return blind;
        }, BambooBlind::restore);
    }

    // "Saves all but the buffer, the error, the report, what can be undone and what is saved"
    private static void restoreAll() {
        BambooBlind blind = Blinds.of(TEXT);
        blind.turn(0, -4);
        blind.tie(1, true);
        blind.dab(0, false, 1, 1, 9);
        blind.spot(true, 2, 1, 8);
        blind.paint(0, true);
        blind.swap(1);
        String due = Blinds.all(blind);
        blind.save();
        Blinds.read(blind, LARGEST);
        Check.same("restore in place of the largest", blind.restore(), 2);
        Check.same("all is restored", Blinds.all(blind), due);
        Check.noState("the coats are", () -> blind.paint(0, true));
        Check.noState("the tie is", () -> blind.turn(1, 0));
    }

    private static void restoreKeepsTheRest() {
        BambooBlind blind = Twins.used();
        String report = State.report(blind);
        Check.same("restore", blind.restore(), 2);
        Check.same("the report stays", State.report(blind), report);
        Check.same("the code stays", blind.errorCode(), 1);
        Check.same("the position stays", blind.errorPosition(), 4);
        Check.same("the buffer stays", State.bufferLength(blind), 14);
        Check.same("its text", blind.readText(), 1);
        Check.same("the rows of its text", blind.setting(1), 3);
    }

    // "An object is used for at most 512 calls after it has been made"
    private static void answers512Calls() {
        BambooBlind blind = new BambooBlind();
        // "slat 1;" and 13 spaces
        blind.feed(0x736c6174, 0x20313b20, 0x20202020, 0x20202020, 0x20202020);
        Check.same("call 2", blind.readText(), 1);
        Check.same("call 3", blind.save(), 1);
        for (int call = 4; call <= 506; call++) {
            int before = call == 4 ? 0 : (call - 1) % 10;
            Check.same("call " + call, blind.dab(0, true, 0, 3, call % 10), before);
        }
        Check.same("call 507", blind.setting(9), 6);
        Check.same("call 508", blind.undo(), 5);
        Check.same("call 509", blind.face(0, true, 0, 3), 5);
        Check.same("call 510", blind.report(1), 8);
        Check.same("call 511", blind.restore(), 1);
        Check.same("call 512", blind.reportByte(6), '5');
    }

    private static void restoreAgain() {
        BambooBlind blind = Twins.used();
        for (int times = 0; times < 3; times++) {
            blind.pull(4);
            blind.dab(0, false, 0, 0, times);
            Check.same("restore again", blind.restore(), 2);
            Check.same("the turn as it was saved", blind.slat(0, 2), 1);
            Check.same("the colour as it was saved", blind.face(0, false, 0, 0), 7);
        }
    }
}
