import java.util.Arrays;

/** Promise 13: run. */
final class RunTest {
    private RunTest() { }

    public static void main(String[] args) {
        doesPlusAsStartDoes();
        doesMinusAsStopDoes();
        doesShedAsShedDoes();
        doesHoursAsPassDoes();
        doesForecastAsForecastDoes();
        doesOneAfterTheOther();
        stopsAtTheFirstRefused();
        stopsAtAStartRefused();
        stopsAtAStopRefused();
        stopsAtHoursRefused();
        clearsTheBuffer();
        undoableAsOneCall();
        undoableIfNoneIsDone();
        returnsHowManyAreDone();
        refusesWhatIsNoPlan();
        refusesAndLeavesTheBuffer();
        Check.end();
    }

    /** A run of a text brings the same state as calls that do not save one state each. */
    private static void runIsLike(Check.History history, String text, Check.Ask call) {
        IslandReserve x = Check.after(history);
        Check.type(x, text);
        Check.due("run of " + text, x.run(), 1);
        IslandReserve y = Check.after(history);
        call.of(y);
        Check.due("as the call does, " + text, x.digest(), y.digest());
        Check.dueText("undo", Check.outcome(x, IslandReserve::undo),
                Check.outcome(y, IslandReserve::undo));
        Check.due("before it, " + text, x.digest(), y.digest());
    }

    /** Doc, Promise 13: Does the orders in the buffer as start(), */
    private static void doesPlusAsStartDoes() {
        for (int set = 0; set <= 3; set++) {
            int inner = set;
            runIsLike(Check.NEW, "+" + set, x -> x.start(inner));
            runIsLike(x -> x.rate(inner, 90, 9, 9, 0), "+" + set, x -> x.start(inner));
            runIsLike(x -> x.rate(inner, 90, 9, 9, 4), "+" + set, x -> x.start(inner));
        }
    }

    /** Doc, Promise 13: stop(), */
    private static void doesMinusAsStopDoes() {
        for (int set = 0; set <= 3; set++) {
            int inner = set;
            runIsLike(x -> x.start(inner), "-" + set, x -> x.stop(inner));
            Check.History running = x -> {
                x.start(inner);
                x.pass(2);
            };
            runIsLike(running, "-" + set, x -> x.stop(inner));
        }
    }

    /** Doc, Promise 13: shed(), */
    private static void doesShedAsShedDoes() {
        runIsLike(Check.NEW, "s", IslandReserve::shed);
        runIsLike(IslandReserve::shed, "s", IslandReserve::shed);
    }

    /** Doc, Promise 13: pass() */
    private static void doesHoursAsPassDoes() {
        for (int hours = 1; hours <= 48; hours++) {
            int inner = hours;
            runIsLike(x -> x.start(2), "h" + hours, x -> x.pass(inner));
        }
        runIsLike(x -> x.pass(47), "h1", x -> x.pass(1));
    }

    /** Doc, Promise 13: and forecast() do, */
    private static void doesForecastAsForecastDoes() {
        for (int hour = 0; hour <= 47; hour++) {
            int inner = hour;
            runIsLike(Check.NEW, "f" + hour + "=0", x -> x.forecast(inner, 0));
            runIsLike(x -> x.pass(48), "f" + hour + "=1500", x -> x.forecast(inner, 1500));
        }
    }

    /** Doc, Promise 13: one after the other, */
    private static void doesOneAfterTheOther() {
        IslandReserve x = new IslandReserve();
        Check.type(x, "+0;+3;f12=1500;f3=0;s;h13;-3;s");
        Check.due("run", x.run(), 8);
        Check.properties(x, "run", 0, 4, 2);
        Check.properties(x, "run", 3, 4, 0, 0, 0);
        Check.hourIs(x, "run", 12, 1500, 1500, 1100, 0, 0, 0, 9);
        Check.hourIs(x, "run", 3, 0, 0, 0, 120, 280, 1, 9);
        Check.counts(x, "run", 8, 13, 1, 0, 1);
        IslandReserve y = new IslandReserve();
        y.rate(2, 50, 50, 1, 0);
        Check.type(y, "+2;-2;+2;h9");
        Check.due("run", y.run(), 4);
        Check.properties(y, "run", 2, 4, 2, 0, 50, 45, 9);
        IslandReserve z = new IslandReserve();
        Check.type(z, "f0=9;f0=7");
        z.run();
        Check.due("the later one stays", z.hour(0, 0), 7);
    }

    /** Doc, Promise 13: up to the first one whose method would throw an exception, */
    private static void stopsAtTheFirstRefused() {
        stopsAt("+0;+0;s", 1);
        stopsAt("-0;s", 0);
        stopsAt("s;s;-0;s;+1", 2);
        stopsAt("f0=1;h48;h1;f1=1", 2);
    }

    /** Doc, Promise 13: whose method would throw an exception, */
    private static void stopsAtAStartRefused() {
        stopsAt("+2;s", 0);
        stopsAt("+1;+1;s", 1);
        stopsAt("+1;h1;+1;s", 2);
        stopsAt("+1;-1;+1;+1;s", 3);
    }

    /** Doc, Promise 13: whose method would throw an exception, */
    private static void stopsAtAStopRefused() {
        stopsAt("-2;s", 0);
        stopsAt("-0;s", 0);
        stopsAt("+3;-3;-3;s", 2);
        stopsAt("+3;h2;-3;-3;s", 3);
    }

    /** Doc, Promise 13: whose method would throw an exception, */
    private static void stopsAtHoursRefused() {
        stopsAt("h48;h1;s", 1);
        stopsAt("h47;h2;s", 1);
        stopsAt("h47;h1;h1;s", 2);
        stopsAt("h1;h48;s", 1);
        stopsAt("h47;h1;f0=3", 3);
    }

    /** Of what is done, and no more, the state tells; the set 2 is lost. */
    private static void stopsAt(String text, int wanted) {
        IslandReserve x = new IslandReserve();
        x.lose(2);
        Check.type(x, text);
        Check.due("run of " + text, x.run(), wanted);
        Check.due("the buffer behind " + text, x.clearBuffer(), 0);
        Check.due("saved states behind " + text, x.count(14), 2);
        IslandReserve y = new IslandReserve();
        y.lose(2);
        Check.type(y, firstOrders(text, wanted));
        if (wanted > 0) {
            y.run();
        } else {
            y.set(1, 6);
        }
        Check.due("the state behind " + text, x.digest(), y.digest());
    }

    private static String firstOrders(String text, int wanted) {
        String[] orders = text.split(";");
        return String.join(";", Arrays.copyOf(orders, wanted));
    }

    /** Doc, Promise 13: and clears the buffer. */
    private static void clearsTheBuffer() {
        for (String text : new String[] {"s", "-0", "s;-0", "h48;h48", "s" + ";s".repeat(29)}) {
            IslandReserve x = new IslandReserve();
            Check.type(x, text);
            x.run();
            Check.due("the buffer behind " + text, x.clearBuffer(), 0);
            Check.due("append behind " + text, x.append('s'), 1);
        }
    }

    /** Doc, Promise 13: Undoable, as one call, */
    private static void undoableAsOneCall() {
        for (String text : new String[] {"s", "+0;h3;s;f5=7;h40", "+0;+0", "s;s"}) {
            Check.undoable(x -> Check.type(x, text), "run of " + text, IslandReserve::run);
        }
        IslandReserve x = new IslandReserve();
        Check.type(x, "s" + ";s".repeat(29));
        x.run();
        Check.due("thirty orders, one saved state", x.count(14), 1);
        x.append('f');
        Check.due("undo", x.undo(), 0);
        Check.due("the buffer is not restored", x.clearBuffer(), 1);
    }

    /** Doc, Promise 13: also if none is done. */
    private static void undoableIfNoneIsDone() {
        Check.undoable(x -> Check.type(x, "-0;s"), "run of none", IslandReserve::run);
        IslandReserve x = new IslandReserve();
        x.shed();
        Check.type(x, "-0");
        Check.due("run", x.run(), 0);
        Check.due("saved states", x.count(14), 2);
        Check.due("undo", x.undo(), 1);
        Check.due("still shed", x.count(10), 1);
    }

    /** Doc, Promise 13: Returns how many are done. */
    private static void returnsHowManyAreDone() {
        for (int orders = 1; orders <= 30; orders++) {
            IslandReserve x = new IslandReserve();
            Check.type(x, "s" + ";s".repeat(orders - 1));
            Check.due("run of " + orders, x.run(), orders);
            Check.due("each was done", x.count(10), orders % 2);
        }
    }

    /** Doc, Promise 13: Throws `IllegalArgumentException` if the buffer does not tell a plan as a
     * text */
    private static void refusesWhatIsNoPlan() {
        String[] texts = {"", "+", "-", "s;", "h", "f1", "f1=", "x", "s;x", "h49", "+0;s;-", "+4",
            "h0", "f0=1501", ";", "s;;s", "f48=1", "h01", "f0=1;f0=01"};
        for (String text : texts) {
            Check.refused(x -> Check.type(x, text), "run of " + text, Check.ILLEGAL,
                    IslandReserve::run);
        }
        Check.refused(x -> Check.type(x, "s;".repeat(30)), "run of 60, not whole",
                Check.ILLEGAL, IslandReserve::run);
    }

    /** Doc, Promise 13: if the buffer does not tell a plan as a text */
    private static void refusesAndLeavesTheBuffer() {
        IslandReserve x = new IslandReserve();
        Check.type(x, "s;h");
        Check.dueText("run", Check.outcome(x, IslandReserve::run), "IllegalArgumentException");
        Check.due("nothing of it was done", x.count(10), 0);
        Check.due("the buffer stays", x.append('2'), 4);
        Check.due("and tells a plan now", x.run(), 2);
    }
}
