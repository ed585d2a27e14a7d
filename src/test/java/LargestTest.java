/** The largest blind that a text can tell, 10 slats of 6 columns and 8 rows, and the smallest. */
public final class LargestTest {
    private static final int NONE = BambooBlind.NONE;

    private static final String TEXT = "high 8;" + "slat 6;".repeat(10)
            + "box left 0 0 60 8 1;box right 0 0 60 8 2;";

    private LargestTest() {
    }

    public static void main(String[] args) {
        whatIsThere();
        whatIsSeen();
        whatWouldBe();
        changes();
        smallest();
        Check.end();
    }

    private static void whatIsThere() {
        BambooBlind blind = Blinds.of(TEXT);
        int[] due = {10, 8, 60, 1, 1, 9, 0, 0, 0, 0};
        for (int what = 0; what < due.length; what++) {
            Check.same("setting " + what, blind.setting(what), due[what]);
        }
        Check.same("slat at the last column", blind.slatAt(59), 9);
        Check.same("the last cell of a picture", blind.picture(true, 59, 7), 2);
        Check.same("the last cell of a face", blind.face(9, true, 5, 7), 2);
        Check.same("common", blind.common(), 0);
        Check.noPlace("slat 10", () -> blind.slat(10, 0));
        Check.noPlace("column 60", () -> blind.slatAt(60));
        Check.noPlace("row 8", () -> blind.picture(true, 0, 8));
    }

    private static void whatIsSeen() {
        BambooBlind blind = Blinds.of(TEXT);
        Check.same("right", blind.right(6, true), 480);
        Check.same("open", blind.open(0), 480);
        Check.same("whole", blind.whole(6), 2);
        Check.same("firstWrong of none", blind.firstWrong(6, true), NONE);
        Check.same("shownFrom", blind.shownFrom(59), 8064 + 1);
        Check.same("bestAngle", blind.bestAngle(true), 6);
        Check.same("the last seam", blind.seam(9), 0);
        Check.same("run", blind.run(6), 60);
        Check.same("worstSlat of none", blind.worstSlat(6, true), NONE);
        Check.same("ghosts", blind.ghosts(6, false), 480);
        Check.same("paintable of none", blind.paintable(true), 0);
        Check.same("span", blind.span(true), 1);
        Check.same("light", blind.light(5), 80.0f / 480.0f);
        Check.same("meanRight", blind.meanRight(true), 1680 / 13.0);
        Check.same("lightest", blind.lightest(), 0);
        for (int slat = 0; slat < 10; slat++) {
            blind.dab(slat, true, slat % 6, 7, slat == 9 ? 0 : 9);
        }
        blind.dab(9, true, 0, 7, 9);
        Check.same("firstWrong", blind.firstWrong(6, true), 420);
        Check.same("worstSlat", blind.worstSlat(6, true), 9);
        Check.same("paintable", blind.paintable(true), 1023);
        Check.same("ghosts of none", blind.ghosts(6, true), 0);
    }

    private static void whatWouldBe() {
        BambooBlind blind = Blinds.of(TEXT);
        Check.same("bestTurn", blind.bestTurn(9, 6, true), 0);
        Check.same("bestPull", blind.bestPull(3, true), -3);
        Check.same("dabs", blind.dabs(6, false), 480);
        Check.same("turnsNeeded", blind.turnsNeeded(3, true), 10);
        Check.same("fairest", blind.fairest(-6), 0);
        Check.same("fairest, the lowest one", blind.fairest(-3), -4);
    }

    private static void changes() {
        BambooBlind blind = Blinds.of(TEXT);
        String before = numbers(blind);
        blind.save();
        Check.same("tie", blind.tie(9, true), true);
        Check.same("pull", blind.pull(8), 9);
        Check.same("seams that cover", blind.setting(7), 1);
        Check.same("covered", blind.covered(0), 32);
        Check.same("dab", blind.dab(9, true, 5, 7, 9), 2);
        Check.same("paint", blind.paint(9, true), 1);
        Check.same("swap", blind.swap(9), 48);
        Check.same("spot", blind.spot(false, 59, 7, 0), 3);
        for (int left = 5; left >= 0; left--) {
            Check.same("undo", blind.undo(), left);
        }
        Check.same("all is undone", numbers(blind), before);
        blind.swap(9);
        Check.same("restore", blind.restore(), 10);
        Check.same("all is restored", numbers(blind), before);
    }

    /** The numbers of the blind and of its slats; all of its cells would take too many calls. */
    private static String numbers(BambooBlind blind) {
        StringBuilder told = new StringBuilder();
        for (int what = 0; what <= 8; what++) {
            told.append(blind.setting(what)).append(' ');
        }
        for (int what = 0; what <= 7; what++) {
            told.append(Blinds.ofSlats(blind, what)).append("; ");
        }
        return told.append(blind.common()).append(' ').append(blind.right(6, true)).append(' ')
                .append(blind.right(-6, false)).append(' ').append(blind.picture(false, 59, 7))
                .append(blind.face(9, true, 5, 7)).toString();
    }

    private static void smallest() {
        BambooBlind blind = Blinds.of("high 1;coats 1;slat 1;");
        Check.same("light of one cell", blind.light(0), 1.0f);
        Check.same("dark from the side", blind.light(1), 0.0f);
        Check.same("right of one cell", blind.right(1, true), 1);
        Check.same("common of one cell", blind.common(), 1);
        Check.same("run of one cell", blind.run(-1), 1);
        Check.same("report of one cell", blind.report(0), 2);
    }
}
