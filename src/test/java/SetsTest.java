import java.util.Arrays;

/** Promises 1 to 5: a new object, rate, start, stop, lose. */
final class SetsTest {
    /** The set 0 stands, 1 warms up, 2 runs, 3 is lost. */
    private static final Check.History ONE_OF_EACH = x -> {
        x.rate(2, 200, 60, 30, 0);
        x.start(1);
        x.start(2);
        x.lose(3);
    };
    private static final Check.History ALL_RUN = x -> {
        for (int set = 0; set <= 3; set++) {
            x.start(set);
        }
        x.pass(1);
    };

    private SetsTest() { }

    public static void main(String[] args) {
        newIslandIsAtHour0();
        newIslandHasStandingSets();
        newIslandHasAnEmptyBuffer();
        newIslandHasNothingBehindIt();
        rateChangesThatSetAlone();
        rateTakesEffectOnTheHour();
        rateIsUndoable();
        rateBoundsOfSet();
        rateBoundsOfGreatest();
        rateBoundsOfLeast();
        rateBoundsOfMerit();
        rateBoundsOfHours();
        rateReturnsTheGreatestBefore();
        rateRefusesAnyWrongArgument();
        rateRefusesASetThatDoesNotStand();
        rateTakesASetThatStandsAgain();
        startLetsASetWarmUp();
        startLetsASetRunAtOnce();
        startIsUndoable();
        startBoundsOfSet();
        startReturnsTheHoursLeft();
        startRefusesASetThatDoesNotStand();
        startTakesASetThatStandsAgain();
        stopLetsAWarmingSetStand();
        stopLetsARunningSetStand();
        stopIsUndoable();
        stopBoundsOfSet();
        stopReturnsHowManyRun();
        stopRefusesASetNotInUse();
        loseLosesASetInAnyState();
        loseMendsALostSet();
        loseIsUndoable();
        loseBoundsOfSet();
        loseReturnsWhetherItIsLost();
        Check.end();
    }

    /** Doc, Promise 1: Creates an island at the hour 0, */
    private static void newIslandIsAtHour0() {
        IslandReserve x = new IslandReserve();
        Check.due("the hour", x.count(0), 0);
        Check.due("no hour has gone by", x.hour(0, 1), -1);
    }

    /** Doc, Promise 1: with sets that stand, */
    private static void newIslandHasStandingSets() {
        IslandReserve x = new IslandReserve();
        Check.ofEachSet(x, "new", 4, 0, 0, 0, 0);
        Check.ofEachSet(x, "new", 5, 0, 0, 0, 0);
        Check.counts(x, "new", 1, 0, 0);
    }

    /** Doc, Promise 1: and an empty buffer. */
    private static void newIslandHasAnEmptyBuffer() {
        Check.due("firstError", new IslandReserve().firstError(), 0);
        Check.due("clearBuffer", new IslandReserve().clearBuffer(), 0);
        Check.due("append", new IslandReserve().append('s'), 1);
    }

    /** Doc, Promise 1: Creates an island */
    private static void newIslandHasNothingBehindIt() {
        IslandReserve x = new IslandReserve();
        Check.counts(x, "new", 0, 0, 0, 0, 180, 180, 0, 0, 0, 0, 0, 0, 0, 0, 0, 0);
        for (int set = 0; set < 4; set++) {
            Check.properties(x, "new", set, 0, 200, 60, 10 * (set + 1), 1, 0, 0, 0, 0, 0);
        }
        for (int hour = 0; hour < 48; hour++) {
            Check.hourIs(x, "new", hour, 100, -1, -1, -1, -1, -1, -1);
        }
        IslandReserve other = new IslandReserve();
        Check.after(ONE_OF_EACH).pass(3);
        Check.due("two islands share nothing", other.digest(), x.digest());
    }

    /** Doc, Promise 2: Changes a set that stands. */
    private static void rateChangesThatSetAlone() {
        for (int set = 0; set <= 3; set++) {
            IslandReserve x = new IslandReserve();
            x.rate(set, 350, 70, 15, 3);
            for (int other = 0; other <= 3; other++) {
                if (other == set) {
                    Check.properties(x, "rated", other, 0, 350, 70, 15, 3, 0, 0, 0, 0, 0);
                } else {
                    Check.properties(x, "not rated", other, 0, 200, 60, 10 * (other + 1), 1, 0);
                }
            }
        }
    }

    /** Doc, Promise 2: Changes a set that stands. */
    private static void rateTakesEffectOnTheHour() {
        IslandReserve x = new IslandReserve();
        x.start(0);
        x.pass(2);
        x.stop(0);
        x.rate(0, 100, 50, 5, 0);
        Check.properties(x, "what it used stays", 0, 7, 360, 2);
        x.start(0);
        x.pass(1);
        Check.hourIs(x, "it bears what it is rated to", 2, 100, 180, 80, 0, 0, 0, 1);
        Check.properties(x, "with its new merit", 0, 7, 360 + 50, 3);
    }

    /** Doc, Promise 2: Undoable. */
    private static void rateIsUndoable() {
        Check.undoable(Check.NEW, "rate", x -> x.rate(1, 350, 70, 15, 3));
        Check.undoable(Check.NEW, "rate to the same", x -> x.rate(1, 200, 60, 20, 1));
    }

    /** Doc, Promise 2: `set`: 0 to 3 */
    private static void rateBoundsOfSet() {
        Check.bounds(Check.NEW, "rate(set, 50, 0, 1, 0)", 0, 3, Check.ILLEGAL,
                (x, set) -> x.rate(set, 50, 0, 1, 0));
    }

    /** Doc, Promise 2: `greatest`: 50 to 500, its greatest load */
    private static void rateBoundsOfGreatest() {
        Check.bounds(Check.NEW, "rate(0, greatest, 0, 1, 0)", 50, 500, Check.ILLEGAL,
                (x, greatest) -> x.rate(0, greatest, 0, 1, 0));
        Check.bounds(Check.NEW, "rate(3, greatest, 50, 1, 0)", 50, 500, Check.ILLEGAL,
                (x, greatest) -> x.rate(3, greatest, 50, 1, 0));
    }

    /** Doc, Promise 2: `least`: 0 to its greatest load */
    private static void rateBoundsOfLeast() {
        for (int greatest : new int[] {50, 51, 199, 200, 201, 500}) {
            Check.bounds(Check.NEW, "rate(1, " + greatest + ", least, 1, 0)", 0, greatest,
                    Check.ILLEGAL, (x, least) -> x.rate(1, greatest, least, 1, 0));
        }
        Check.History small = x -> x.rate(1, 50, 0, 1, 0);
        Check.bounds(small, "the greatest before, 50, is no bound", 0, 500, Check.ILLEGAL,
                (x, least) -> x.rate(1, 500, least, 1, 0));
        Check.History great = x -> x.rate(1, 500, 0, 1, 0);
        Check.bounds(great, "the greatest before, 500, is no bound", 0, 50, Check.ILLEGAL,
                (x, least) -> x.rate(1, 50, least, 1, 0));
    }

    /** Doc, Promise 2: `merit`: 1 to 99 */
    private static void rateBoundsOfMerit() {
        Check.bounds(Check.NEW, "rate(0, 50, 0, merit, 0)", 1, 99, Check.ILLEGAL,
                (x, merit) -> x.rate(0, 50, 0, merit, 0));
    }

    /** Doc, Promise 2: `hours`: 0 to 4, to warm up */
    private static void rateBoundsOfHours() {
        Check.bounds(Check.NEW, "rate(0, 50, 0, 1, hours)", 0, 4, Check.ILLEGAL,
                (x, hours) -> x.rate(0, 50, 0, 1, hours));
        for (int hours = 0; hours <= 4; hours++) {
            IslandReserve x = new IslandReserve();
            x.rate(0, 50, 0, 1, hours);
            Check.due("to warm up", x.start(0), hours);
        }
    }

    /** Doc, Promise 2: Returns its greatest load before. */
    private static void rateReturnsTheGreatestBefore() {
        IslandReserve x = new IslandReserve();
        Check.due("rate", x.rate(2, 50, 0, 1, 0), 200);
        Check.due("rate again", x.rate(2, 500, 0, 1, 0), 50);
        Check.due("rate again", x.rate(2, 51, 0, 1, 0), 500);
        Check.due("rate another", x.rate(3, 51, 0, 1, 0), 200);
        x.undo();
        x.undo();
        Check.due("rate an undone one", x.rate(2, 60, 0, 1, 0), 500);
    }

    /** Doc, Promise 2: Throws `IllegalArgumentException` if an argument is out of range */
    private static void rateRefusesAnyWrongArgument() {
        int[][] wrong = {{-1, 50, 0, 1, 0}, {4, 50, 0, 1, 0}, {0, 49, 0, 1, 0},
            {0, 501, 0, 1, 0}, {0, 50, -1, 1, 0}, {0, 50, 51, 1, 0}, {0, 50, 0, 0, 0},
            {0, 50, 0, 100, 0}, {0, 50, 0, 1, -1}, {0, 50, 0, 1, 5}, {0, 49, 49, 1, 0},
            {0, 501, 501, 1, 0}, {-1, 49, -1, 0, -1}, {4, 501, 502, 100, 5}};
        for (int[] arguments : wrong) {
            Check.refused(Check.NEW, "rate" + Arrays.toString(arguments),
                    Check.ILLEGAL, x -> x.rate(arguments[0], arguments[1], arguments[2],
                            arguments[3], arguments[4]));
        }
    }

    /** Doc, Promise 2: Throws `IllegalStateException` if it does not stand */
    private static void rateRefusesASetThatDoesNotStand() {
        Check.taken(ONE_OF_EACH, "rate one that stands", x -> x.rate(0, 50, 0, 1, 0));
        Check.refused(ONE_OF_EACH, "rate one that warms up", Check.BAD_STATE,
                x -> x.rate(1, 50, 0, 1, 0));
        Check.refused(ONE_OF_EACH, "rate one that runs", Check.BAD_STATE,
                x -> x.rate(2, 50, 0, 1, 0));
        Check.refused(ONE_OF_EACH, "rate one that is lost", Check.BAD_STATE,
                x -> x.rate(3, 50, 0, 1, 0));
    }

    /** Doc, Promise 2: if it does not stand */
    private static void rateTakesASetThatStandsAgain() {
        IslandReserve x = Check.after(ONE_OF_EACH);
        x.stop(1);
        x.stop(2);
        x.lose(3);
        for (int set = 0; set <= 3; set++) {
            Check.due("rate one that stands again", x.rate(set, 50, 0, 1, 0), 200);
        }
    }

    /** Doc, Promise 3: Lets a set warm up, */
    private static void startLetsASetWarmUp() {
        for (int hours = 1; hours <= 4; hours++) {
            IslandReserve x = new IslandReserve();
            x.rate(1, 200, 60, 20, hours);
            x.start(1);
            Check.properties(x, "started", 1, 4, 1, hours);
            Check.counts(x, "started", 1, 0, 1);
            Check.ofEachSet(x, "the others stand", 4, 0, 1, 0, 0);
        }
    }

    /** Doc, Promise 3: or run at once, if that takes it 0 hours. */
    private static void startLetsASetRunAtOnce() {
        IslandReserve x = new IslandReserve();
        x.rate(1, 200, 60, 20, 0);
        x.start(1);
        Check.properties(x, "at once", 1, 4, 2, 0, 180, 0, 0);
        Check.counts(x, "at once", 1, 1, 0);
    }

    /** Doc, Promise 3: Undoable. */
    private static void startIsUndoable() {
        Check.undoable(Check.NEW, "start to warm up", x -> x.start(1));
        Check.undoable(ONE_OF_EACH, "start", x -> x.start(0));
        Check.undoable(x -> x.rate(1, 50, 0, 1, 0), "start to run", x -> x.start(1));
    }

    /** Doc, Promise 3: `set`: 0 to 3 | Doc, Promise 3: Throws `IllegalArgumentException` if set
     * is out of range */
    private static void startBoundsOfSet() {
        Check.bounds(Check.NEW, "start(set)", 0, 3, Check.ILLEGAL, (x, set) -> x.start(set));
    }

    /** Doc, Promise 3: Returns the hours left, 0 if it runs. */
    private static void startReturnsTheHoursLeft() {
        for (int hours = 0; hours <= 4; hours++) {
            IslandReserve x = new IslandReserve();
            x.rate(3, 200, 60, 20, hours);
            Check.due("start", x.start(3), hours);
        }
        IslandReserve y = new IslandReserve();
        y.rate(0, 200, 60, 20, 3);
        y.start(0);
        y.pass(2);
        y.stop(0);
        Check.due("start from the beginning again", y.start(0), 3);
    }

    /** Doc, Promise 3: Throws `IllegalStateException` if it does not stand */
    private static void startRefusesASetThatDoesNotStand() {
        Check.taken(ONE_OF_EACH, "start one that stands", x -> x.start(0));
        Check.refused(ONE_OF_EACH, "start one that warms up", Check.BAD_STATE, x -> x.start(1));
        Check.refused(ONE_OF_EACH, "start one that runs", Check.BAD_STATE, x -> x.start(2));
        Check.refused(ONE_OF_EACH, "start one that is lost", Check.BAD_STATE, x -> x.start(3));
    }

    /** Doc, Promise 3: if it does not stand */
    private static void startTakesASetThatStandsAgain() {
        IslandReserve x = Check.after(ONE_OF_EACH);
        x.stop(1);
        x.stop(2);
        x.lose(3);
        Check.due("one that warmed up", x.start(1), 1);
        Check.due("one that ran", x.start(2), 0);
        Check.due("one that was lost", x.start(3), 1);
    }

    /** Doc, Promise 4: Lets a set that warms up */
    private static void stopLetsAWarmingSetStand() {
        IslandReserve x = Check.after(ONE_OF_EACH);
        x.stop(1);
        Check.properties(x, "stopped", 1, 4, 0, 0, 0, 0, 0);
        Check.ofEachSet(x, "the others are as they were", 4, 0, 0, 2, 3);
        x.pass(2);
        Check.properties(x, "it does not go on", 1, 4, 0, 0, 0, 0, 0);
    }

    /** Doc, Promise 4: or runs stand. */
    private static void stopLetsARunningSetStand() {
        IslandReserve x = Check.after(ONE_OF_EACH);
        x.pass(1);
        x.stop(2);
        Check.properties(x, "stopped, what it used is counted", 2, 4, 0, 0, 0, 180, 1);
        Check.ofEachSet(x, "the others are as they were", 4, 0, 2, 0, 3);
        x.pass(1);
        Check.properties(x, "it uses no more", 2, 7, 180, 1);
    }

    /** Doc, Promise 4: Undoable. */
    private static void stopIsUndoable() {
        Check.undoable(ONE_OF_EACH, "stop one that warms up", x -> x.stop(1));
        Check.undoable(ONE_OF_EACH, "stop one that runs", x -> x.stop(2));
    }

    /** Doc, Promise 4: `set`: 0 to 3 | Doc, Promise 4: Throws `IllegalArgumentException` if set
     * is out of range */
    private static void stopBoundsOfSet() {
        Check.bounds(ALL_RUN, "stop(set)", 0, 3, Check.ILLEGAL, (x, set) -> x.stop(set));
    }

    /** Doc, Promise 4: Returns how many sets run then. */
    private static void stopReturnsHowManyRun() {
        IslandReserve x = Check.after(ALL_RUN);
        Check.due("of four", x.stop(2), 3);
        Check.due("of three", x.stop(0), 2);
        x.start(2);
        Check.due("one that warms up does not run", x.stop(3), 1);
        Check.due("nor did it run", x.stop(2), 1);
        Check.due("of one", x.stop(1), 0);
    }

    /** Doc, Promise 4: Throws `IllegalStateException` if it does not warm up or run */
    private static void stopRefusesASetNotInUse() {
        Check.refused(ONE_OF_EACH, "stop one that stands", Check.BAD_STATE, x -> x.stop(0));
        Check.taken(ONE_OF_EACH, "stop one that warms up", x -> x.stop(1));
        Check.taken(ONE_OF_EACH, "stop one that runs", x -> x.stop(2));
        Check.refused(ONE_OF_EACH, "stop one that is lost", Check.BAD_STATE, x -> x.stop(3));
    }

    /** Doc, Promise 5: Loses a set, */
    private static void loseLosesASetInAnyState() {
        for (int set = 0; set <= 2; set++) {
            IslandReserve x = Check.after(ONE_OF_EACH);
            x.lose(set);
            Check.properties(x, "lost", set, 4, 3, 0, 0, 0, 0);
            x.pass(2);
            Check.properties(x, "it stays lost", set, 4, 3, 0, 0, 0, 0);
        }
        IslandReserve y = Check.after(ALL_RUN);
        y.lose(0);
        Check.properties(y, "what it used is counted", 0, 7, 60, 1);
        Check.counts(y, "the others run", 1, 3, 0);
    }

    /** Doc, Promise 5: or mends it, if it is lost (it stands then). */
    private static void loseMendsALostSet() {
        IslandReserve x = Check.after(ONE_OF_EACH);
        x.lose(1);
        x.lose(2);
        for (int set = 1; set <= 3; set++) {
            x.lose(set);
            Check.properties(x, "mended", set, 0, 200, 60, 10 * (set + 1), set == 2 ? 0 : 1, 0, 0);
        }
        Check.counts(x, "none runs or warms up again", 1, 0, 0);
    }

    /** Doc, Promise 5: Undoable. */
    private static void loseIsUndoable() {
        Check.undoable(ONE_OF_EACH, "lose one that stands", x -> x.lose(0));
        Check.undoable(ONE_OF_EACH, "lose one that warms up", x -> x.lose(1));
        Check.undoable(ONE_OF_EACH, "lose one that runs", x -> x.lose(2));
        Check.undoable(ONE_OF_EACH, "mend", x -> x.lose(3));
    }

    /** Doc, Promise 5: `set`: 0 to 3 | Doc, Promise 5: Throws `IllegalArgumentException` if set
     * is out of range */
    private static void loseBoundsOfSet() {
        Check.bounds(Check.NEW, "lose(set)", 0, 3, Check.ILLEGAL, (x, set) -> x.lose(set));
        Check.bounds(ONE_OF_EACH, "lose(set)", 0, 3, Check.ILLEGAL, (x, set) -> x.lose(set));
    }

    /** Doc, Promise 5: Returns 1 if it is lost then, otherwise 0. */
    private static void loseReturnsWhetherItIsLost() {
        IslandReserve x = Check.after(ONE_OF_EACH);
        Check.due("lose one that stands", x.lose(0), 1);
        Check.due("lose one that warms up", x.lose(1), 1);
        Check.due("lose one that runs", x.lose(2), 1);
        Check.due("mend", x.lose(3), 0);
        Check.due("lose it again", x.lose(3), 1);
        Check.due("mend it again", x.lose(3), 0);
    }
}
