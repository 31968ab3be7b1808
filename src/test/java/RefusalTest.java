/** What the document tells under "Exceptions": refused calls change nothing, and the exception
 * that is named first is thrown. */
final class RefusalTest {
    /** Six states are saved and others dropped; the set 0 stands, 1 warms up, 2 runs, 3 is lost. */
    private static final Check.History BUSY = x -> {
        x.rate(2, 300, 50, 7, 0);
        x.rate(1, 150, 10, 9, 4);
        x.start(2);
        x.shed();
        x.pass(5);
        x.start(1);
        x.lose(3);
        x.forecast(9, 700);
        x.set(1, 3);
        Check.type(x, "h1;");
    };
    /** The hour is 48, and the buffer is full. */
    private static final Check.History AT_THE_END = x -> {
        BUSY.play(x);
        x.pass(43);
        Check.type(x, "s;".repeat(30));
    };
    private static final Check.History[] ALL = {Check.NEW, BUSY, AT_THE_END};

    private RefusalTest() { }

    public static void main(String[] args) {
        refusedSetsChangeNothing();
        refusedHoursChangeNothing();
        refusedBufferCallsChangeNothing();
        refusedLooksChangeNothing();
        rateNamesTheArgumentFirst();
        startAndStopNameTheArgument();
        passNamesTheArgumentFirst();
        setNamesTheSettingFirst();
        appendNamesTheCodeFirst();
        refusedCallsInARow();
        Check.end();
    }

    /** Doc, Exceptions: A call that throws an exception changes nothing. */
    private static void refusedSetsChangeNothing() {
        for (Check.History history : ALL) {
            for (int set : new int[] {-1, 4, Integer.MIN_VALUE, Integer.MAX_VALUE}) {
                Check.refused(history, "rate", Check.ILLEGAL, x -> x.rate(set, 50, 0, 1, 0));
                Check.refused(history, "start", Check.ILLEGAL, x -> x.start(set));
                Check.refused(history, "stop", Check.ILLEGAL, x -> x.stop(set));
                Check.refused(history, "lose", Check.ILLEGAL, x -> x.lose(set));
            }
        }
        for (Check.History history : new Check.History[] {BUSY, AT_THE_END}) {
            Check.refused(history, "rate, running", Check.BAD_STATE, x -> x.rate(2, 50, 0, 1, 0));
            Check.refused(history, "rate, lost", Check.BAD_STATE, x -> x.rate(3, 50, 0, 1, 0));
            Check.refused(history, "start, running", Check.BAD_STATE, x -> x.start(2));
            Check.refused(history, "start, lost", Check.BAD_STATE, x -> x.start(3));
            Check.refused(history, "stop, standing", Check.BAD_STATE, x -> x.stop(0));
            Check.refused(history, "stop, lost", Check.BAD_STATE, x -> x.stop(3));
        }
        Check.refused(BUSY, "rate, warming up", Check.BAD_STATE, x -> x.rate(1, 50, 0, 1, 0));
        Check.refused(BUSY, "start, warming up", Check.BAD_STATE, x -> x.start(1));
    }

    /** Doc, Exceptions: A call that throws an exception changes nothing. */
    private static void refusedHoursChangeNothing() {
        for (Check.History history : ALL) {
            Check.refused(history, "forecast hour", Check.ILLEGAL, x -> x.forecast(48, 0));
            Check.refused(history, "forecast load", Check.ILLEGAL, x -> x.forecast(47, 1501));
            Check.refused(history, "pass 0", Check.ILLEGAL, x -> x.pass(0));
            Check.refused(history, "pass 49", Check.ILLEGAL, x -> x.pass(49));
            Check.refused(history, "set 2", Check.OUT_OF_BOUNDS, x -> x.set(2, 0));
            Check.refused(history, "set 0", Check.ILLEGAL, x -> x.set(0, 301));
            Check.refused(history, "set 1", Check.ILLEGAL, x -> x.set(1, 49));
        }
        Check.refused(BUSY, "pass to 49", Check.BAD_STATE, x -> x.pass(44));
        Check.refused(AT_THE_END, "pass to 49", Check.BAD_STATE, x -> x.pass(1));
    }

    /** Doc, Exceptions: A call that throws an exception changes nothing. */
    private static void refusedBufferCallsChangeNothing() {
        for (Check.History history : ALL) {
            Check.refused(history, "append 32", Check.ILLEGAL, x -> x.append(32));
            Check.refused(history, "append 127", Check.ILLEGAL, x -> x.append(127));
            Check.refused(history, "run", Check.ILLEGAL, IslandReserve::run);
        }
        Check.refused(AT_THE_END, "append to 60", Check.BAD_STATE, x -> x.append('s'));
        Check.refused(Check.NEW, "undo", Check.BAD_STATE, IslandReserve::undo);
    }

    /** Doc, Exceptions: A call that throws an exception changes nothing. */
    private static void refusedLooksChangeNothing() {
        for (Check.History history : ALL) {
            Check.refused(history, "setOf set", Check.ILLEGAL, x -> x.setOf(4, 0));
            Check.refused(history, "setOf what", Check.ILLEGAL, x -> x.setOf(0, 9));
            Check.refused(history, "hour hour", Check.ILLEGAL, x -> x.hour(48, 0));
            Check.refused(history, "hour what", Check.ILLEGAL, x -> x.hour(0, 7));
            Check.refused(history, "count", Check.ILLEGAL, x -> x.count(15));
            Check.refused(history, "setting", Check.OUT_OF_BOUNDS, x -> x.setting(2));
            Check.refused(history, "ifLost", Check.ILLEGAL, x -> x.ifLost(4));
            Check.refused(history, "cheapest hour", Check.ILLEGAL, x -> x.cheapest(48, 0));
            Check.refused(history, "cheapest what", Check.ILLEGAL, x -> x.cheapest(0, 2));
        }
    }

    /** Doc, Exceptions: If several exceptions apply, the one that is named first in the throws
     * clause is thrown. */
    private static void rateNamesTheArgumentFirst() {
        for (int set = 1; set <= 3; set++) {
            int inner = set;
            Check.refused(BUSY, "greatest 49", Check.ILLEGAL, x -> x.rate(inner, 49, 0, 1, 0));
            Check.refused(BUSY, "greatest 501", Check.ILLEGAL, x -> x.rate(inner, 501, 0, 1, 0));
            Check.refused(BUSY, "least -1", Check.ILLEGAL, x -> x.rate(inner, 50, -1, 1, 0));
            Check.refused(BUSY, "least 51", Check.ILLEGAL, x -> x.rate(inner, 50, 51, 1, 0));
            Check.refused(BUSY, "merit 0", Check.ILLEGAL, x -> x.rate(inner, 50, 0, 0, 0));
            Check.refused(BUSY, "merit 100", Check.ILLEGAL, x -> x.rate(inner, 50, 0, 100, 0));
            Check.refused(BUSY, "hours -1", Check.ILLEGAL, x -> x.rate(inner, 50, 0, 1, -1));
            Check.refused(BUSY, "hours 5", Check.ILLEGAL, x -> x.rate(inner, 50, 0, 1, 5));
            Check.refused(BUSY, "the state alone", Check.BAD_STATE,
                    x -> x.rate(inner, 500, 500, 99, 4));
        }
    }

    /** Doc, Exceptions: the one that is named first in the throws clause is thrown. */
    private static void startAndStopNameTheArgument() {
        Check.History noneMayStart = x -> {
            for (int set = 0; set <= 3; set++) {
                x.start(set);
            }
        };
        Check.refused(noneMayStart, "start(4)", Check.ILLEGAL, x -> x.start(4));
        Check.refused(noneMayStart, "start(-1)", Check.ILLEGAL, x -> x.start(-1));
        Check.refused(Check.NEW, "stop(4), none may stop", Check.ILLEGAL, x -> x.stop(4));
        Check.refused(Check.NEW, "stop(-1), none may stop", Check.ILLEGAL, x -> x.stop(-1));
    }

    /** Doc, Exceptions: the one that is named first in the throws clause is thrown. */
    private static void passNamesTheArgumentFirst() {
        for (int hour : new int[] {1, 47, 48}) {
            Check.History gone = x -> x.pass(hour);
            Check.refused(gone, "49 from " + hour, Check.ILLEGAL, x -> x.pass(49));
            Check.refused(gone, "48 from " + hour, Check.BAD_STATE, x -> x.pass(48));
            Check.refused(gone, "0 from " + hour, Check.ILLEGAL, x -> x.pass(0));
            Check.refused(gone, "most from " + hour, Check.ILLEGAL,
                    x -> x.pass(Integer.MAX_VALUE));
        }
    }

    /** Doc, Exceptions: the one that is named first in the throws clause is thrown. */
    private static void setNamesTheSettingFirst() {
        int[] values = {-1, 301, Integer.MIN_VALUE, Integer.MAX_VALUE};
        for (int setting : new int[] {-1, 2, Integer.MIN_VALUE, Integer.MAX_VALUE}) {
            for (int value : values) {
                Check.refused(Check.NEW, "set(" + setting + ", " + value + ")",
                        Check.OUT_OF_BOUNDS, x -> x.set(setting, value));
            }
        }
        for (int value : values) {
            Check.refused(Check.NEW, "set(0, " + value + ")", Check.ILLEGAL, x -> x.set(0, value));
            Check.refused(Check.NEW, "set(1, " + value + ")", Check.ILLEGAL, x -> x.set(1, value));
        }
    }

    /** Doc, Exceptions: the one that is named first in the throws clause is thrown. */
    private static void appendNamesTheCodeFirst() {
        Check.History full = x -> Check.type(x, "s;".repeat(30));
        for (int code : new int[] {32, 127, -1, Integer.MIN_VALUE, Integer.MAX_VALUE}) {
            Check.refused(full, "append(" + code + ") to 60", Check.ILLEGAL, x -> x.append(code));
        }
        for (int code : new int[] {33, 126}) {
            Check.refused(full, "append(" + code + ") to 60", Check.BAD_STATE,
                    x -> x.append(code));
        }
    }

    /** Doc, Exceptions: A call that throws an exception changes nothing. */
    private static void refusedCallsInARow() {
        Check.Ask[] refused = {x -> x.rate(0, 49, 0, 1, 0), x -> x.start(2), x -> x.stop(0),
            x -> x.lose(4), x -> x.forecast(48, 0), x -> x.pass(44), x -> x.set(2, 0),
            x -> x.append(32), IslandReserve::run, x -> x.count(15)};
        Check.History manyRefused = x -> {
            BUSY.play(x);
            for (int round = 0; round < 10; round++) {
                for (Check.Ask ask : refused) {
                    Check.outcome(x, ask);
                }
            }
        };
        IslandReserve x = Check.after(manyRefused);
        IslandReserve twin = Check.after(BUSY);
        for (int level = 0; level <= 6; level++) {
            Check.due("a hundred refused calls, " + level + " undone", x.digest(), twin.digest());
            Check.dueText("undo", Check.outcome(x, IslandReserve::undo),
                    Check.outcome(twin, IslandReserve::undo));
        }
        x.append('s');
        twin.append('s');
        Check.due("the buffer goes on alike", x.run(), twin.run());
        Check.due("the state goes on alike", x.digest(), twin.digest());
    }
}
