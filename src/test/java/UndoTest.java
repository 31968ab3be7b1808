/** What the document tells under "Undo", and promise 14: undo. */
final class UndoTest {
    /** Calls that are undoable, each on an island on which HISTORY was played. */
    private static final Check.Ask[] UNDOABLE = {
        x -> x.rate(0, 350, 20, 7, 0), x -> x.start(0), x -> x.stop(1), x -> x.lose(2),
        x -> x.lose(3), IslandReserve::shed, x -> x.forecast(9, 1500), x -> x.pass(5),
        x -> x.set(0, 0), x -> x.set(1, 0), IslandReserve::run};
    /** Undoable calls that change nothing. */
    private static final Check.Ask[] IDLE = {
        x -> x.rate(0, 200, 60, 10, 1), x -> x.forecast(9, 100), x -> x.set(0, 80),
        x -> x.set(1, 6)};
    private static final Check.Ask[] NOT_UNDOABLE = {
        x -> x.append('s'), IslandReserve::clearBuffer, IslandReserve::firstError,
        x -> x.setOf(0, 6), x -> x.hour(0, 1), x -> x.count(4), x -> x.setting(0),
        x -> x.ifLost(0), x -> x.cheapest(9, 0), IslandReserve::firstDark,
        IslandReserve::ifShed, IslandReserve::bestStart, x -> (long) x.safeShare(),
        IslandReserve::digest};
    /** The set 0 stands, 1 warms up, 2 runs, 3 is lost; the buffer tells a plan. */
    private static final Check.History HISTORY = x -> {
        x.start(2);
        x.pass(2);
        x.start(1);
        x.lose(3);
        Check.type(x, "s;h3;+0");
    };

    private UndoTest() { }

    public static void main(String[] args) {
        eachUndoableCallSaves();
        alsoIfItChangesNothing();
        otherCallsDoNotSave();
        refusedCallsDoNotSave();
        whatIsCountedIsRestored();
        bufferIsNotRestored();
        savedStatesAreNotRestored();
        atMost6AreSaved();
        oldestIsDroppedFirst();
        eachUndoableCallDropsTheOldest();
        undoRestoresTheLatest();
        undoDropsIt();
        undoReturnsHowManyAreLeft();
        undoIsNotUndoable();
        undoRefusesIfThereIsNone();
        Check.end();
    }

    /** Doc, Undo: Each method that is marked "undoable" and does not throw an exception saves the
     * state from before it */
    private static void eachUndoableCallSaves() {
        for (int call = 0; call < UNDOABLE.length; call++) {
            Check.undoable(HISTORY, "undoable call " + call, UNDOABLE[call]);
        }
    }

    /** Doc, Undo: (also if it changes nothing): */
    private static void alsoIfItChangesNothing() {
        for (int call = 0; call < IDLE.length; call++) {
            Check.undoable(HISTORY, "idle call " + call, IDLE[call]);
        }
        Check.History noStop = x -> Check.type(x, "-0");
        Check.undoable(noStop, "run of none", IslandReserve::run);
    }

    /** Doc, Undo: Each method that is marked "undoable" */
    private static void otherCallsDoNotSave() {
        for (int call = 0; call < NOT_UNDOABLE.length; call++) {
            IslandReserve x = Check.after(HISTORY);
            NOT_UNDOABLE[call].of(x);
            Check.due("saved states behind the other call " + call, x.count(14), 4);
        }
    }

    /** Doc, Undo: and does not throw an exception */
    private static void refusedCallsDoNotSave() {
        Check.Ask[] refused = {x -> x.rate(0, 49, 0, 1, 0), x -> x.rate(2, 50, 0, 1, 0),
            x -> x.start(1), x -> x.stop(0), x -> x.lose(4), x -> x.forecast(0, 1501),
            x -> x.pass(47), x -> x.set(0, 301), x -> x.append(' ')};
        for (int call = 0; call < refused.length; call++) {
            IslandReserve x = Check.after(HISTORY);
            String got = Check.outcome(x, refused[call]);
            Check.due("it is refused: " + got, got.endsWith("Exception") ? 1 : 0, 1);
            Check.due("saved states behind the refused call " + call, x.count(14), 4);
        }
        IslandReserve none = new IslandReserve();
        Check.outcome(none, IslandReserve::run);
        Check.due("saved states behind a refused run", none.count(14), 0);
    }

    /** Doc, Undo: all, also what is counted so far, */
    private static void whatIsCountedIsRestored() {
        IslandReserve x = Check.after(HISTORY);
        Check.counts(x, "before", 8, 0, 0, 0, 0, 2, 1080);
        x.set(1, 0);
        x.shed();
        x.forecast(3, 401);
        x.pass(4);
        Check.counts(x, "counted", 8, 4, 1, 1, 1, 3, 1080 + 3 * 300 + 1000);
        x.undo();
        Check.counts(x, "restored", 8, 0, 0, 1, 0, 2, 1080);
        Check.due("the hour", x.count(0), 2);
        Check.properties(x, "fuel and hours", 2, 7, 1080, 2);
        Check.properties(x, "hours left", 1, 4, 1, 1);
        Check.hourIs(x, "it has not gone by", 3, 401, -1, -1, -1, -1, -1, -1);
        Check.dueShare("share", x.safeShare(), 0.0);
        x.undo();
        Check.due("forecast", x.hour(3, 0), 100);
        x.undo();
        Check.due("taken again", x.count(10), 0);
        x.undo();
        Check.due("setting", x.setting(1), 6);
    }

    /** Doc, Undo: but the buffer */
    private static void bufferIsNotRestored() {
        IslandReserve x = new IslandReserve();
        Check.type(x, "s;");
        x.forecast(0, 7);
        x.append('h');
        x.append('1');
        x.undo();
        Check.due("what was typed stays", x.append(';'), 5);
        Check.due("it is the same text", x.firstError(), 5);
        x.append('s');
        x.forecast(0, 7);
        x.clearBuffer();
        x.undo();
        Check.due("what was cleared stays so", x.clearBuffer(), 0);
        Check.type(x, "s");
        x.run();
        x.undo();
        Check.due("what run cleared stays so", x.clearBuffer(), 0);
    }

    /** Doc, Undo: and the saved states. */
    private static void savedStatesAreNotRestored() {
        IslandReserve x = new IslandReserve();
        for (int load = 1; load <= 7; load++) {
            x.forecast(0, load);
        }
        Check.due("undo", x.undo(), 5);
        Check.due("what was dropped does not come back", x.count(14), 5);
        x.forecast(0, 8);
        Check.due("saved anew", x.count(14), 6);
        Check.due("undo", x.undo(), 5);
        Check.due("the state before it", x.hour(0, 0), 6);
        Check.due("undo", x.undo(), 4);
        Check.due("the state before that", x.hour(0, 0), 5);
    }

    /** Doc, Undo: At most 6 states are saved; */
    private static void atMost6AreSaved() {
        IslandReserve x = new IslandReserve();
        for (int load = 1; load <= 20; load++) {
            x.forecast(0, load);
            Check.due("saved states", x.count(14), Math.min(load, 6));
        }
        IslandReserve y = new IslandReserve();
        for (int load = 1; load <= 6; load++) {
            y.forecast(0, load);
        }
        for (int left = 5; left >= 0; left--) {
            Check.due("undo", y.undo(), left);
        }
        Check.due("six take it back to the first", y.digest(), new IslandReserve().digest());
    }

    /** Doc, Undo: the oldest one is dropped first. */
    private static void oldestIsDroppedFirst() {
        for (int calls = 6; calls <= 20; calls++) {
            IslandReserve x = new IslandReserve();
            x.forecast(0, 0);
            x.undo();
            for (int load = 1; load <= calls; load++) {
                x.forecast(0, load);
            }
            for (int back = 1; back <= 6; back++) {
                x.undo();
                Check.due("of " + calls + ", undo " + back, x.hour(0, 0),
                        calls == back ? 100 : calls - back);
            }
            Check.dueText("no more", Check.outcome(x, IslandReserve::undo),
                    "IllegalStateException");
        }
    }

    /** Doc, Undo: the oldest one is dropped first. */
    private static void eachUndoableCallDropsTheOldest() {
        Check.History full = x -> {
            HISTORY.play(x);
            x.set(0, 81);
            x.set(0, 82);
        };
        for (int call = 0; call < UNDOABLE.length; call++) {
            IslandReserve x = Check.after(full);
            IslandReserve y = Check.after(full);
            UNDOABLE[call].of(x);
            Check.due("still 6, call " + call, x.count(14), 6);
            Check.due("undo", x.undo(), 5);
            y.undo();
            x.clearBuffer();
            y.clearBuffer();
            Check.due("the latest store", x.setting(0), 82);
            for (int left = 4; left >= 0; left--) {
                Check.due("undo", x.undo(), left);
                Check.due("the states behind call " + call, saysLike(x), saysLike(y));
                if (left > 0) {
                    y.undo();
                }
            }
            Check.dueText("no more", Check.outcome(x, IslandReserve::undo),
                    "IllegalStateException");
        }
    }

    /** What tells the states of HISTORY apart, without how many are saved. */
    private static long saysLike(IslandReserve x) {
        long said = x.setting(0) + 1000L * x.count(0);
        for (int set = 0; set <= 3; set++) {
            said = 10 * said + x.setOf(set, 4);
        }
        return said;
    }

    /** Doc, Promise 14: Restores the latest saved state, */
    private static void undoRestoresTheLatest() {
        IslandReserve x = new IslandReserve();
        long[] digests = new long[6];
        Check.Ask[] calls = {y -> y.rate(1, 350, 20, 7, 0), y -> y.start(1),
            y -> y.forecast(2, 400), y -> y.pass(5), y -> y.set(0, 0), y -> y.lose(1)};
        Check.type(x, "f7");
        for (int call = 0; call < 6; call++) {
            digests[call] = x.digest();
            calls[call].of(x);
        }
        for (int call = 5; call >= 0; call--) {
            x.undo();
            Check.due("the state before call " + call, x.digest(), digests[call]);
        }
    }

    /** Doc, Promise 14: and drops it. */
    private static void undoDropsIt() {
        IslandReserve x = new IslandReserve();
        x.forecast(0, 1);
        x.forecast(0, 2);
        x.undo();
        Check.due("saved states", x.count(14), 1);
        x.forecast(0, 3);
        x.undo();
        Check.due("not 2", x.hour(0, 0), 1);
        x.undo();
        Check.due("the first", x.hour(0, 0), 100);
    }

    /** Doc, Promise 14: Returns how many saved states are left. */
    private static void undoReturnsHowManyAreLeft() {
        for (int calls = 1; calls <= 8; calls++) {
            IslandReserve x = new IslandReserve();
            for (int call = 1; call <= calls; call++) {
                x.shed();
            }
            for (int left = Math.min(calls, 6) - 1; left >= 0; left--) {
                Check.due("undo of " + calls, x.undo(), left);
                Check.due("saved states", x.count(14), left);
            }
        }
    }

    /** Doc, Undo: marked "undoable" */
    private static void undoIsNotUndoable() {
        IslandReserve x = new IslandReserve();
        x.forecast(0, 1);
        x.forecast(0, 2);
        x.undo();
        x.undo();
        Check.due("back to the first", x.hour(0, 0), 100);
        Check.due("saved states", x.count(14), 0);
    }

    /** Doc, Promise 14: Throws `IllegalStateException` if there is none */
    private static void undoRefusesIfThereIsNone() {
        Check.taken(IslandReserve::shed, "undo of one", IslandReserve::undo);
        Check.refused(Check.NEW, "undo of none", Check.BAD_STATE, IslandReserve::undo);
        Check.History backAgain = x -> {
            x.shed();
            x.undo();
        };
        Check.refused(backAgain, "undo behind the first", Check.BAD_STATE, IslandReserve::undo);
        Check.refused(x -> x.append('s'), "append saves nothing", Check.BAD_STATE,
                IslandReserve::undo);
        IslandReserve x = new IslandReserve();
        x.shed();
        x.undo();
        x.forecast(0, 900);
        Check.due("saved anew", x.undo(), 0);
        Check.due("forecast", x.hour(0, 0), 100);
    }
}
