/**
 * The bounds of what would be: promises 32 to 36. The sentence that a test stands for is told above
 * it.
 */
public final class WouldBeBoundsTest {
    private static final int NONE = BambooBlind.NONE;

    // As many columns are shown as the slat leans steps.
    private static final String WIDE = "high 1;slat 6;box left 0 0 6 1 1;box right 0 0 6 1 2;";
    private static final String LARGEST = "high 8;" + "slat 6;".repeat(10)
            + "box left 0 0 60 8 1;box right 0 0 60 8 2;";
    private static final String ONE = "high 1;slat 1;";

    /** A question with an angle. */
    private interface Question {
        void ask(BambooBlind blind, int angle);
    }

    private WouldBeBoundsTest() {
    }

    public static void main(String[] args) {
        angles();
        anglesWithoutColumns();
        slatsOfBestTurn();
        slatsBeforeAngles();
        bestTurnFromEachAngle();
        bestTurnTiedOrNot();
        bestTurnOfTheWholeBlind();
        bestTurnOfEachSlat();
        bestTurnLowest();
        bestPullBounds();
        bestPullNotAtAll();
        bestPullLeast();
        bestPullBelowZero();
        bestPullOfTiedSlats();
        dabsOfAll();
        dabsNotShown();
        dabsWhateverCoats();
        turnsNeededNow();
        turnsNeededOfAll();
        turnsNeededOfTiedSlats();
        turnsNeededNoWay();
        turnsNeededFewest();
        fairestFromEachAngle();
        fairestBounds();
        fairestOfOneCell();
        fairestTiedOrNot();
        askingChangesNothing();
        Check.end();
    }

    // "A parameter angle is -6 to 6; otherwise IllegalArgumentException is thrown"
    private static void angles() {
        refused("bestTurn", (blind, angle) -> blind.bestTurn(1, angle, true));
        refused("bestPull", (blind, angle) -> blind.bestPull(angle, false));
        refused("dabs", (blind, angle) -> blind.dabs(angle, true));
        refused("turnsNeeded", (blind, angle) -> blind.turnsNeeded(angle, true));
        refused("fairest", BambooBlind::fairest);
    }

    private static void refused(String what, Question question) {
        for (int angle : new int[] {-7, 7, Integer.MIN_VALUE, Integer.MAX_VALUE}) {
            Twins.noValue(what + " from " + angle, Twins::used,
                    blind -> question.ask(blind, angle));
        }
        for (int angle : new int[] {-6, 6}) {
            BambooBlind blind = Twins.used();
            Check.same(what + " from " + angle,
                    Check.thrownBy(() -> question.ask(blind, angle)), "nothing");
        }
    }

    private static void anglesWithoutColumns() {
        BambooBlind blind = new BambooBlind();
        for (int angle : new int[] {-7, 7}) {
            Check.noValue("bestPull of nothing", () -> blind.bestPull(angle, true));
            Check.noValue("dabs of nothing", () -> blind.dabs(angle, true));
            Check.noValue("turnsNeeded of nothing", () -> blind.turnsNeeded(angle, true));
            Check.noValue("fairest of nothing", () -> blind.fairest(angle));
        }
        for (int angle = -6; angle <= 6; angle++) {
            Check.same("bestPull without columns", blind.bestPull(angle, true), 0);
            Check.same("dabs without columns", blind.dabs(angle, true), NONE);
            Check.same("turnsNeeded without columns", blind.turnsNeeded(angle, true), NONE);
            Check.same("fairest without columns", blind.fairest(angle), -4);
        }
    }

    // "The parameters slat [...] are numbers of existing ones"
    private static void slatsOfBestTurn() {
        for (int slat : new int[] {-1, 2, Integer.MIN_VALUE, Integer.MAX_VALUE}) {
            Twins.noPlace("bestTurn of " + slat, Twins::used,
                    blind -> blind.bestTurn(slat, 0, true));
        }
        Twins.noPlace("bestTurn of nothing", BambooBlind::new,
                blind -> blind.bestTurn(0, 0, true));
        Check.same("the last slat", Blinds.of(LARGEST).bestTurn(9, 6, true), 0);
        Check.same("the first slat", Blinds.of(LARGEST).bestTurn(0, 6, true), 0);
        Check.noPlace("behind the last", () -> Blinds.of(LARGEST).bestTurn(10, 6, true));
    }

    // "IllegalArgumentException is thrown, behind IndexOutOfBoundsException"
    private static void slatsBeforeAngles() {
        Twins.noPlace("slat 2 from 7", Twins::used, blind -> blind.bestTurn(2, 7, true));
        Twins.noPlace("slat -1 from -7", Twins::used, blind -> blind.bestTurn(-1, -7, false));
        Twins.noPlace("no slat from 7", BambooBlind::new, blind -> blind.bestTurn(0, 7, true));
    }

    // Promise 32: "the turn, -4 to 4, of a slat with which [...] the most cells [...] would be seen
    // right"
    private static void bestTurnFromEachAngle() {
        int[] left = {0, 1, 2, 3, 4, 4, 4, 4, 4, 4, -4, -4, -4};
        for (int angle = -6; angle <= 6; angle++) {
            BambooBlind blind = Blinds.of(WIDE);
            Check.same("the left picture from " + angle, blind.bestTurn(0, angle, false),
                    left[angle + 6]);
            Check.same("the right picture from " + angle, blind.bestTurn(0, angle, true), -4);
            blind.turn(0, 4);
            Check.same("the left picture, turned, from " + angle, blind.bestTurn(0, angle, false),
                    left[angle + 6]);
        }
    }

    // "if it was set now (tied or not)"
    private static void bestTurnTiedOrNot() {
        BambooBlind blind = Blinds.of(WIDE);
        blind.tie(0, true);
        Check.same("of a tied slat", blind.bestTurn(0, -2, false), 4);
        Check.same("it stays", blind.slat(0, 2), 0);
        Check.same("it is tied yet", blind.slat(0, 3), 1);
    }

    // "the most cells of the whole blind"
    private static void bestTurnOfTheWholeBlind() {
        // Alone, slat 0 would be best with turn -4; that would open all of it.
        BambooBlind blind = Blinds.of("high 1;slat 6;slat 6;box right 0 0 12 1 2;");
        Check.same("no seam is best", blind.bestTurn(0, 6, true), 0);
        Check.same("nor is one before it", blind.bestTurn(1, 6, true), 0);
        blind.turn(1, -4);
        Check.same("as the next one", blind.bestTurn(0, 6, true), -4);
    }

    // The others stay as they are, each of them.
    private static void bestTurnOfEachSlat() {
        BambooBlind blind = Blinds.of("high 1;" + "slat 1 right 3;".repeat(10));
        for (int slat = 0; slat < 10; slat++) {
            blind.turn(slat, -1);
            Check.same("as the others", blind.bestTurn(slat, 6, true), 3);
            blind.turn(slat, 3);
        }
    }

    // "the lowest one of several"
    private static void bestTurnLowest() {
        Check.same("all turns but one", Blinds.of(ONE).bestTurn(0, -4, true), -3);
        Check.same("all turns but -4", Blinds.of(ONE).bestTurn(0, -3, true), -4);
        BambooBlind none = Blinds.of(ONE);
        none.dab(0, true, 0, 0, 1);
        none.dab(0, false, 0, 0, 1);
        none.turn(0, 3);
        Check.same("no turn is better", none.bestTurn(0, 6, true), -4);
    }

    // Promise 33: "the number, -8 to 8"
    private static void bestPullBounds() {
        BambooBlind blind = Blinds.of(WIDE);
        blind.turn(0, 4);
        Check.same("-8", blind.bestPull(2, true), -8);
        Check.same("-7", blind.bestPull(3, true), -7);
        Check.same("-4 is enough", blind.bestPull(6, true), -4);
        blind.turn(0, -4);
        Check.same("8", blind.bestPull(-2, false), 8);
        Check.same("7", blind.bestPull(-3, false), 7);
        Check.same("4 is enough", blind.bestPull(-6, false), 4);
    }

    // "(0: not at all)"
    private static void bestPullNotAtAll() {
        BambooBlind blind = Blinds.of(WIDE);
        Check.same("it is best now", blind.bestPull(6, true), 0);
        Check.same("no pull is better", blind.bestPull(6, false), 0);
        blind.turn(0, -4);
        Check.same("it is at the end", blind.bestPull(0, true), 0);
        Check.same("without slats", new BambooBlind().bestPull(6, true), 0);
    }

    // "the least one without sign"; "each by itself, not beyond -4 or 4"
    private static void bestPullLeast() {
        BambooBlind blind = Blinds.of(WIDE);
        for (int turn = -4; turn <= 4; turn++) {
            blind.turn(0, turn);
            Check.same("to the left end", blind.bestPull(0, true), -4 - turn);
            Check.same("to the right end", blind.bestPull(0, false), 4 - turn);
        }
        BambooBlind two = Blinds.of("high 1;slat 1 right 4;slat 1 left 3;");
        Check.same("both at the right end", two.bestPull(6, true), 7);
        two.turn(1, -4);
        two.turn(0, 3);
        Check.same("both at the left end", two.bestPull(6, true), -7);
    }

    // "of two the one below 0"
    private static void bestPullBelowZero() {
        Check.same("1 or -1", Blinds.of(ONE).bestPull(0, true), -1);
        Check.same("4 or -4", Blinds.of("high 1;slat 6;").bestPull(0, true), -4);
        BambooBlind right = Blinds.of("high 1;slat 6;box left 0 0 6 1 1;");
        right.dab(0, true, 5, 0, 1);
        Check.same("the better one of 1 and -1", right.bestPull(0, false), 4);
        BambooBlind ends = Blinds.of("high 1;slat 1 left 1;slat 1 right 1;");
        Check.same("5 or -5", ends.bestPull(6, true), -5);
    }

    private static void bestPullOfTiedSlats() {
        BambooBlind blind = Blinds.of("high 1;slat 1 right 4;slat 1 left 4;");
        blind.tie(0, true);
        Check.same("the free one alone", blind.bestPull(6, true), 8);
        blind.tie(1, true);
        Check.same("none is free", blind.bestPull(6, true), 0);
        blind.tie(0, false);
        Check.same("the other one alone", blind.bestPull(6, true), -8);
    }

    // Promise 34: "how many dabs of one cell each it would take now, at least"
    private static void dabsOfAll() {
        BambooBlind blind = Blinds.of(LARGEST);
        Check.same("none", blind.dabs(6, true), 0);
        Check.same("each cell", blind.dabs(6, false), 480);
        blind.dab(9, true, 5, 7, 1);
        Check.same("one", blind.dabs(6, true), 1);
        Check.same("each but one", blind.dabs(6, false), 479);
        blind.dab(9, true, 5, 7, 2);
        Check.same("none again", blind.dabs(6, true), 0);
    }

    // "NONE if some cell is not shown, or without columns"
    private static void dabsNotShown() {
        BambooBlind blind = Blinds.of(LARGEST);
        Check.same("a column of each slat is open", blind.dabs(5, true), NONE);
        Check.same("all are open", blind.dabs(0, true), NONE);
        blind.turn(9, -1);
        Check.same("one column is covered", blind.dabs(6, true), NONE);
        blind.turn(9, 0);
        blind.turn(0, -1);
        Check.same("one column is open by a seam", blind.dabs(6, true), NONE);
        Check.same("of boxes without columns",
                Blinds.of("box left 0 0 1 1 1;").dabs(6, false), NONE);
    }

    // "whatever coats there are"
    private static void dabsWhateverCoats() {
        BambooBlind blind = Blinds.of("high 2;coats 1;slat 1;box right 0 0 1 2 1;");
        blind.swap(0);
        Check.noState("no coat more", () -> blind.paint(0, true));
        Check.same("two cells", blind.dabs(6, true), 2);
    }

    // Promise 35: "0 if it is seen whole now"
    private static void turnsNeededNow() {
        BambooBlind blind = Blinds.of(LARGEST);
        Check.same("free slats", blind.turnsNeeded(6, true), 0);
        for (int slat = 0; slat < 10; slat++) {
            blind.tie(slat, true);
        }
        Check.same("tied slats", blind.turnsNeeded(6, true), 0);
        Check.same("tied slats, and not whole", blind.turnsNeeded(5, true), NONE);
    }

    // "the least number of slats [...] that would have to be turned otherwise"
    private static void turnsNeededOfAll() {
        BambooBlind blind = Blinds.of(LARGEST);
        Check.same("each slat", blind.turnsNeeded(5, true), 10);
        Check.same("each slat to the end", blind.turnsNeeded(2, true), 10);
        Check.same("not beyond the end", blind.turnsNeeded(1, true), NONE);
        Check.same("each slat to the right", blind.turnsNeeded(-2, false), 10);
        Check.same("not beyond the right end", blind.turnsNeeded(-1, false), NONE);
        blind.turn(4, -1);
        Check.same("one of ten", blind.turnsNeeded(6, true), 1);
        Check.same("nine of ten", blind.turnsNeeded(5, true), 9);
        Check.same("one slat", Blinds.of(ONE).turnsNeeded(0, true), 1);
    }

    // "of those that are not tied"
    private static void turnsNeededOfTiedSlats() {
        BambooBlind blind = Blinds.of("high 1;slat 1;slat 1 right 2;slat 1 left 3;");
        Check.same("the turn of one of them", blind.turnsNeeded(6, true), 2);
        blind.tie(1, true);
        Check.same("the turn of the tied one", blind.turnsNeeded(6, true), 2);
        Check.same("with its turn all are open", blind.turnsNeeded(2, true), NONE);
        blind.tie(2, true);
        Check.same("two tied ones", blind.turnsNeeded(6, true), NONE);
        blind.tie(1, false);
        Check.same("the turn of the other tied one", blind.turnsNeeded(2, true), 2);
        Check.same("with that all are open", blind.turnsNeeded(-3, true), NONE);
        BambooBlind both = Blinds.of("high 1;slat 1 left 1;slat 1;slat 1 left 1;");
        both.tie(0, true);
        both.tie(2, true);
        Check.same("two tied ones with one turn", both.turnsNeeded(6, true), 1);
    }

    // "NONE if there is no such way"
    private static void turnsNeededNoWay() {
        BambooBlind blind = Blinds.of(ONE);
        blind.dab(0, true, 0, 0, 1);
        Check.same("by the left face", blind.turnsNeeded(0, true), 1);
        Check.same("no turn shows it from 6", blind.turnsNeeded(6, true), NONE);
        blind.dab(0, false, 0, 0, 1);
        Check.same("neither face is right", blind.turnsNeeded(0, true), NONE);
    }

    // "(which slats and which turn, as it takes the fewest; the others stay as they are)"
    private static void turnsNeededFewest() {
        BambooBlind blind = Blinds.of("high 1;slat 1;slat 1 right 1;slat 1 right 1;slat 1;slat 1;");
        Check.same("two of five", blind.turnsNeeded(6, true), 2);
        Check.same("three of five, since two are open", blind.turnsNeeded(0, true), 3);
        Check.same("two of five yet", blind.turnsNeeded(1, true), 2);
        Check.same("two of five from the left", blind.turnsNeeded(-6, false), 2);
    }

    // Promise 36: "for the left picture from the angle, and for the right one from the angle with
    // the other sign; the lowest one of several"
    private static void fairestFromEachAngle() {
        int[] due = {0, -1, -2, -4, -4, -4, -4, -4, -4, -4, -4, -4, -4};
        for (int angle = -6; angle <= 6; angle++) {
            BambooBlind blind = Blinds.of(WIDE);
            Check.same("fairest from " + angle, blind.fairest(angle), due[angle + 6]);
        }
    }

    // "the turn, -4 to 4"
    private static void fairestBounds() {
        BambooBlind blind = Blinds.of(WIDE);
        Check.same("the lowest of two", blind.fairest(0), -4);
        for (int column = 0; column < 6; column++) {
            blind.dab(0, true, column, 0, 9);
        }
        Check.same("the highest", blind.fairest(0), 4);
        Check.same("the lowest that is enough", blind.fairest(-3), 3);
        Check.same("none is better", blind.fairest(6), -4);
    }

    // "the most cells [...] together": also one alone
    private static void fairestOfOneCell() {
        // The left picture alone can be seen right, with turns above the angle.
        BambooBlind blind = Blinds.of(ONE + "box left 0 0 1 1 1;box right 0 0 1 1 2;");
        blind.dab(0, true, 0, 0, 9);
        int[] due = {-4, -4, -3, -2, -1, 0, 1, 2, 3, 4, -4, -4, -4};
        for (int angle = -6; angle <= 6; angle++) {
            Check.same("one cell from " + angle, blind.fairest(angle), due[angle + 6]);
        }
    }

    // "if all slats had it (tied or not)"
    private static void fairestTiedOrNot() {
        BambooBlind blind = Blinds.of("high 1;slat 3;slat 3;box left 0 0 6 1 1;"
                + "box right 0 0 6 1 2;");
        int fairest = blind.fairest(-6);
        blind.turn(0, 4);
        blind.tie(0, true);
        blind.turn(1, -4);
        blind.tie(1, true);
        Check.same("of tied slats", blind.fairest(-6), fairest);
        Check.same("their turns stay", Blinds.ofSlats(blind, 2), "4 -4");
    }

    // "what would be; nothing changes by asking"
    private static void askingChangesNothing() {
        Twins.unchanged("asking what would be", Twins::used, blind -> {
            for (int angle = -6; angle <= 6; angle++) {
                blind.bestTurn(0, angle, true);
                blind.bestTurn(1, angle, false);
                blind.bestPull(angle, true);
                blind.dabs(angle, false);
                blind.turnsNeeded(angle, true);
                blind.fairest(angle);
            }
        });
        Twins.unchanged("asking it of nothing", BambooBlind::new, blind -> {
            blind.bestPull(6, true);
            blind.dabs(6, true);
            blind.turnsNeeded(6, true);
            blind.fairest(6);
        });
    }
}
