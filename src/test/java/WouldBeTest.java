/** Promises 32 to 36: what would be. */
public final class WouldBeTest {
    private static final int NONE = BambooBlind.NONE;

    // Slats of 3 and 2 columns, seen whole from -6 and -5, and from 5 and 6.
    private static final String EVEN = "high 2;slat 3;slat 2;box left 0 0 5 2 1;"
            + "box right 0 0 5 2 2;";

    // As many columns are shown as the slat leans steps.
    private static final String WIDE = "high 1;slat 6;box left 0 0 6 1 1;box right 0 0 6 1 2;";

    /** A call with an angle. */
    private interface Asked {
        void from(int angle);
    }

    private WouldBeTest() {
    }

    public static void main(String[] args) {
        bestTurn();
        bestTurnWithSeams();
        bestPull();
        bestPullOfSeveral();
        dabs();
        turnsNeeded();
        turnsNeededWithTies();
        fairest();
        nothingChanges();
        anglesOutOfRange();
        Check.end();
    }

    // Promise 32
    private static void bestTurn() {
        BambooBlind blind = Blinds.of(WIDE);
        Check.same("for the right picture from 3", blind.bestTurn(0, 3, true), -4);
        Check.same("for the right picture from 0", blind.bestTurn(0, 0, true), -4);
        Check.same("for the right picture from 2", blind.bestTurn(0, 2, true), -4);
        Check.same("for the left picture from -3", blind.bestTurn(0, -3, false), 3);
        Check.same("for the left picture from -2", blind.bestTurn(0, -2, false), 4);
        Check.same("the lowest of all", blind.bestTurn(0, 5, false), -4);
        blind.tie(0, true);
        Check.same("of a tied slat", blind.bestTurn(0, -3, false), 3);
        Check.noPlace("slat 1", () -> blind.bestTurn(1, 0, true));
        Check.noPlace("slat -1", () -> blind.bestTurn(-1, 0, true));
        Check.noPlace("slat 1 from 7", () -> blind.bestTurn(1, 7, true));
    }

    private static void bestTurnWithSeams() {
        BambooBlind blind = Blinds.of("high 1;slat 1 right 1;slat 1 left 1;slat 1 left 1;"
                + "box right 0 0 3 1 2;");
        Check.same("the first slat", blind.bestTurn(0, 6, true), -1);
        // With each turn below 2 the others are shown, or one of them and the slat itself.
        Check.same("the slat between", blind.bestTurn(1, 6, true), -4);
        blind.turn(0, -1);
        blind.turn(1, 3);
        Check.same("the slat between others", blind.bestTurn(1, 6, true), -1);
        blind.turn(2, 3);
        Check.same("the lowest of several", blind.bestTurn(1, 6, true), -4);
        Check.same("the last slat", blind.bestTurn(2, 6, true), 3);
    }

    // Promise 33
    private static void bestPull() {
        BambooBlind blind = Blinds.of(WIDE);
        Check.same("right from 3", blind.bestPull(3, true), -3);
        Check.same("right from 6", blind.bestPull(6, true), 0);
        Check.same("right from 0", blind.bestPull(0, true), -4);
        Check.same("left from -3", blind.bestPull(-3, false), 3);
        Check.same("left from 6", blind.bestPull(6, false), 0);
        blind.turn(0, 4);
        Check.same("right from 2, turned", blind.bestPull(2, true), -8);
        blind.tie(0, true);
        Check.same("tied", blind.bestPull(2, true), 0);
        BambooBlind same = Blinds.of("high 1;slat 6;");
        Check.same("of two the one below 0", same.bestPull(0, true), -4);
        Check.same("the better one of two", same.bestPull(-1, true), 4);
        Check.same("without columns", new BambooBlind().bestPull(0, true), 0);
    }

    private static void bestPullOfSeveral() {
        BambooBlind blind = Blinds.of("high 1;slat 1 left 4;slat 1 right 4;");
        Check.same("both at one end", blind.bestPull(6, true), -8);
        blind.tie(1, true);
        Check.same("the first one alone", blind.bestPull(6, true), 8);
        blind.tie(1, false);
        blind.tie(0, true);
        Check.same("the second one alone", blind.bestPull(6, true), -8);
        BambooBlind near = Blinds.of("high 1;slat 1 right 3;slat 1 right 4;");
        // Pulled to the right by one, both are at the end.
        Check.same("the end is near", near.bestPull(0, true), 1);
    }

    // Promise 34
    private static void dabs() {
        BambooBlind blind = Blinds.of(EVEN);
        Check.same("seen whole", blind.dabs(6, true), 0);
        Check.same("all are wrong", blind.dabs(6, false), 10);
        Check.same("some are open", blind.dabs(4, true), NONE);
        blind.dab(1, true, 1, 1, 9);
        blind.dab(0, true, 0, 0, 1);
        Check.same("two are wrong", blind.dabs(5, true), 2);
        Check.same("one is right for the other picture", blind.dabs(6, false), 9);
        Check.same("the other face stays", blind.dabs(-6, false), 0);
        blind.turn(0, 1);
        Check.same("some are covered", blind.dabs(6, true), NONE);
        Check.same("without columns", new BambooBlind().dabs(6, true), NONE);
        BambooBlind one = Blinds.of("high 1;coats 1;slat 1;");
        one.dab(0, true, 0, 0, 9);
        Check.same("whatever coats there are", one.dabs(6, true), 1);
    }

    // Promise 35
    private static void turnsNeeded() {
        BambooBlind blind = Blinds.of(EVEN);
        Check.same("seen whole", blind.turnsNeeded(6, true), 0);
        Check.same("all have to turn", blind.turnsNeeded(4, true), 2);
        Check.same("turned by 4", blind.turnsNeeded(1, true), 2);
        Check.same("not so far", blind.turnsNeeded(0, true), NONE);
        Check.same("the other picture", blind.turnsNeeded(6, false), NONE);
        blind.turn(0, 1);
        Check.same("one of two", blind.turnsNeeded(6, true), 1);
        Check.same("one of two, or both", blind.turnsNeeded(5, true), 1);
        Check.same("both", blind.turnsNeeded(4, true), 2);
        blind.dab(0, true, 0, 0, 9);
        Check.same("another colour", blind.turnsNeeded(6, true), NONE);
        Check.same("without columns", new BambooBlind().turnsNeeded(6, true), NONE);
        BambooBlind like = Blinds.of("high 1;slat 1;slat 1 right 4;slat 1 left 2;slat 1 left 2;");
        Check.same("the turn of two", like.turnsNeeded(0, true), 2);
        Check.same("open with the turn of two", like.turnsNeeded(-2, true), 3);
    }

    private static void turnsNeededWithTies() {
        BambooBlind blind = Blinds.of("high 1;slat 1;slat 1 right 4;slat 1 left 2;slat 1 left 2;");
        blind.tie(1, true);
        Check.same("the turn of the tied one", blind.turnsNeeded(0, true), 3);
        Check.same("open with its turn", blind.turnsNeeded(4, true), NONE);
        blind.tie(2, true);
        Check.same("tied with two turns", blind.turnsNeeded(0, true), NONE);
        blind.tie(1, false);
        Check.same("the turn of two", blind.turnsNeeded(0, true), 2);
        BambooBlind even = Blinds.of(EVEN);
        even.tie(0, true);
        even.tie(1, true);
        Check.same("all tied, and seen whole", even.turnsNeeded(6, true), 0);
        Check.same("all tied", even.turnsNeeded(4, true), NONE);
    }

    // Promise 36
    private static void fairest() {
        BambooBlind blind = Blinds.of(EVEN);
        Check.same("from 6", blind.fairest(6), -4);
        Check.same("from -6", blind.fairest(-6), -1);
        Check.same("from -5", blind.fairest(-5), 0);
        Check.same("from -1", blind.fairest(-1), -4);
        blind.turn(0, 4);
        blind.tie(0, true);
        Check.same("tied or not", blind.fairest(-5), 0);
        // From 0 the left picture is seen right with turns above 0, the right one below 0.
        BambooBlind wide = Blinds.of(WIDE);
        Check.same("the lowest of two", wide.fairest(0), -4);
        wide.dab(0, true, 0, 0, 9);
        wide.dab(0, true, 5, 0, 9);
        Check.same("the better one of two", wide.fairest(0), 4);
        Check.same("without columns", new BambooBlind().fairest(0), -4);
    }

    private static void nothingChanges() {
        BambooBlind blind = Blinds.of("high 2;slat 3 right 1;slat 2;box right 0 0 4 1 2;");
        blind.tie(1, true);
        String before = Blinds.all(blind);
        for (int angle = -6; angle <= 6; angle++) {
            blind.bestTurn(0, angle, true);
            blind.bestTurn(1, angle, false);
            blind.bestPull(angle, true);
            blind.dabs(angle, false);
            blind.turnsNeeded(angle, true);
            blind.fairest(angle);
        }
        Check.same("nothing changes by asking", Blinds.all(blind), before);
        Check.same("nothing more to undo", blind.setting(9), 1);
    }

    private static void anglesOutOfRange() {
        BambooBlind blind = Blinds.of(EVEN);
        refused("bestTurn", angle -> blind.bestTurn(0, angle, true));
        refused("bestPull", angle -> blind.bestPull(angle, true));
        refused("dabs", angle -> blind.dabs(angle, true));
        refused("turnsNeeded", angle -> blind.turnsNeeded(angle, true));
        refused("fairest", blind::fairest);
        BambooBlind none = new BambooBlind();
        refused("dabs without columns", angle -> none.dabs(angle, true));
        refused("turnsNeeded without columns", angle -> none.turnsNeeded(angle, true));
        refused("fairest without columns", none::fairest);
    }

    private static void refused(String what, Asked asked) {
        Check.noValue(what + " from 7", () -> asked.from(7));
        Check.noValue(what + " from -7", () -> asked.from(-7));
        Check.noValue(what + " from the lowest", () -> asked.from(Integer.MIN_VALUE));
        Check.noValue(what + " from the highest", () -> asked.from(Integer.MAX_VALUE));
    }
}
