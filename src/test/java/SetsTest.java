/** Promises 1 to 5: a new object, rate, start, stop, lose. */
final class SetsTest {
    private SetsTest() { }

    public static void main(String[] args) {
        newObject();
        rateChanges();
        rateEdges();
        rateRefuses();
        startWarmsUp();
        startAtOnce();
        startRefuses();
        stopLetsStand();
        stopRefuses();
        loseAndMend();
        loseRefuses();
        Check.end();
    }

    private static void newObject() {
        IslandReserve x = new IslandReserve();
        Check.counts(x, "new", 0, 0, 0, 0, 180, 180, 0, 0, 0, 0, 0, 0, 0, 0, 0, 0);
        for (int set = 0; set < 4; set++) {
            Check.properties(x, "new", set, 0, 200, 60, 10 * (set + 1), 1, 0, 0, 0, 0, 0);
        }
        for (int hour = 0; hour < 48; hour++) {
            Check.hourIs(x, "new", hour, 100, -1, -1, -1, -1, -1, -1);
        }
        Check.due("new: setting(0)", x.setting(0), 80);
        Check.due("new: setting(1)", x.setting(1), 6);
        Check.due("new: firstError", x.firstError(), 0);
        Check.due("new: clearBuffer", x.clearBuffer(), 0);
        Check.due("NONE", IslandReserve.NONE, -1);
        IslandReserve other = new IslandReserve();
        other.start(1);
        Check.due("two objects share nothing", x.setOf(1, 4), 0);
    }

    private static void rateChanges() {
        IslandReserve x = new IslandReserve();
        Check.due("rate", x.rate(2, 350, 70, 15, 3), 200);
        Check.properties(x, "rated", 2, 0, 350, 70, 15, 3, 0, 0);
        Check.properties(x, "not rated", 1, 0, 200, 60, 20, 1);
        Check.due("rate again", x.rate(2, 60, 0, 1, 0), 350);
        Check.due("rate the same", x.rate(2, 60, 0, 1, 0), 60);
        Check.due("saved states of three rates", x.count(14), 3);
        Check.due("undo", x.undo(), 2);
        Check.due("undo", x.undo(), 1);
        Check.properties(x, "undone", 2, 0, 350, 70, 15, 3);
        IslandReserve y = new IslandReserve();
        y.start(0);
        y.pass(2);
        y.stop(0);
        y.rate(0, 100, 50, 5, 1);
        Check.properties(y, "what is used stays", 0, 7, 360, 2);
    }

    private static void rateEdges() {
        IslandReserve x = new IslandReserve();
        Check.due("least numbers", x.rate(0, 50, 0, 1, 0), 200);
        Check.properties(x, "least numbers", 0, 0, 50, 0, 1, 0);
        Check.due("least as greatest", x.rate(0, 50, 50, 1, 0), 50);
        Check.due("greatest numbers", x.rate(3, 500, 500, 99, 4), 200);
        Check.properties(x, "greatest numbers", 3, 0, 500, 500, 99, 4);
    }

    private static void rateRefuses() {
        IslandReserve x = new IslandReserve();
        x.start(1);
        x.lose(2);
        Check.illegal(x, "rate set -1", () -> x.rate(-1, 50, 0, 1, 0));
        Check.illegal(x, "rate set 4", () -> x.rate(4, 50, 0, 1, 0));
        Check.illegal(x, "rate greatest 49", () -> x.rate(0, 49, 0, 1, 0));
        Check.illegal(x, "rate greatest 501", () -> x.rate(0, 501, 0, 1, 0));
        Check.illegal(x, "rate least -1", () -> x.rate(0, 50, -1, 1, 0));
        Check.illegal(x, "rate least 51 of 50", () -> x.rate(0, 50, 51, 1, 0));
        Check.illegal(x, "rate merit 0", () -> x.rate(0, 50, 0, 0, 0));
        Check.illegal(x, "rate merit 100", () -> x.rate(0, 50, 0, 100, 0));
        Check.illegal(x, "rate hours -1", () -> x.rate(0, 50, 0, 1, -1));
        Check.illegal(x, "rate hours 5", () -> x.rate(0, 50, 0, 1, 5));
        Check.badState(x, "rate warming up", () -> x.rate(1, 50, 0, 1, 0));
        Check.badState(x, "rate lost", () -> x.rate(2, 50, 0, 1, 0));
        Check.illegal(x, "rate both wrong", () -> x.rate(1, 49, 0, 1, 0));
        x.pass(1);
        Check.badState(x, "rate running", () -> x.rate(1, 50, 0, 1, 0));
    }

    private static void startWarmsUp() {
        IslandReserve x = new IslandReserve();
        x.rate(1, 200, 60, 20, 3);
        Check.due("start", x.start(1), 3);
        Check.properties(x, "started", 1, 4, 1, 3);
        Check.counts(x, "started", 1, 0, 1);
        x.pass(2);
        Check.properties(x, "two hours on", 1, 4, 1, 1, 0, 0, 0);
        Check.hourIs(x, "two hours on", 1, 100, 180, 180, 0, 0, 0, 0);
        x.pass(1);
        Check.properties(x, "runs in the hour in which none is left", 1, 4, 2, 0, 180, 360, 1);
        Check.hourIs(x, "three hours on", 2, 100, 180, 0, 0, 20, 0, 2);
        Check.counts(x, "three hours on", 1, 1, 0);
        x.undo();
        x.undo();
        Check.properties(x, "undone to started", 1, 4, 1, 3);
        x.undo();
        Check.properties(x, "undone to standing", 1, 4, 0, 0);
    }

    private static void startAtOnce() {
        IslandReserve x = new IslandReserve();
        x.rate(0, 200, 60, 10, 0);
        Check.due("start at once", x.start(0), 0);
        Check.properties(x, "at once", 0, 4, 2, 0, 180);
        Check.counts(x, "at once", 1, 1, 0);
        IslandReserve y = new IslandReserve();
        y.rate(3, 200, 60, 10, 4);
        Check.due("start for 4 hours", y.start(3), 4);
    }

    private static void startRefuses() {
        IslandReserve x = new IslandReserve();
        x.rate(0, 200, 60, 10, 0);
        x.start(0);
        x.start(1);
        x.lose(2);
        Check.illegal(x, "start -1", () -> x.start(-1));
        Check.illegal(x, "start 4", () -> x.start(4));
        Check.illegal(x, "start greatest int", () -> x.start(Integer.MAX_VALUE));
        Check.badState(x, "start running", () -> x.start(0));
        Check.badState(x, "start warming up", () -> x.start(1));
        Check.badState(x, "start lost", () -> x.start(2));
    }

    private static void stopLetsStand() {
        IslandReserve x = new IslandReserve();
        x.start(0);
        x.start(1);
        x.pass(1);
        x.start(2);
        Check.due("stop warming up", x.stop(2), 2);
        Check.properties(x, "stopped", 2, 4, 0, 0);
        Check.due("stop running", x.stop(0), 1);
        Check.properties(x, "stopped", 0, 4, 0, 0, 0, 180 - 60, 1);
        Check.due("stop the last", x.stop(1), 0);
        Check.due("undo", x.undo(), 5);
        Check.due("runs again", x.count(1), 1);
    }

    private static void stopRefuses() {
        IslandReserve x = new IslandReserve();
        x.lose(3);
        Check.illegal(x, "stop -1", () -> x.stop(-1));
        Check.illegal(x, "stop 4", () -> x.stop(4));
        Check.badState(x, "stop standing", () -> x.stop(0));
        Check.badState(x, "stop lost", () -> x.stop(3));
    }

    private static void loseAndMend() {
        IslandReserve x = new IslandReserve();
        Check.due("lose standing", x.lose(0), 1);
        Check.properties(x, "lost", 0, 4, 3, 0);
        Check.due("mend", x.lose(0), 0);
        Check.properties(x, "mended", 0, 4, 0, 0);
        x.start(1);
        Check.due("lose warming up", x.lose(1), 1);
        Check.properties(x, "lost, no hours left", 1, 4, 3, 0);
        x.pass(2);
        Check.properties(x, "stays lost", 1, 4, 3, 0, 0, 0, 0);
        Check.due("mend to stand", x.lose(1), 0);
        Check.properties(x, "mended stands", 1, 4, 0, 0);
        x.start(1);
        x.pass(1);
        Check.due("lose running", x.lose(1), 1);
        Check.counts(x, "lost", 1, 0, 0);
        Check.properties(x, "lost, its fuel is counted", 1, 7, 360, 1);
        Check.due("undo", x.undo(), 5);
        Check.properties(x, "runs again", 1, 4, 2);
    }

    private static void loseRefuses() {
        IslandReserve x = new IslandReserve();
        Check.illegal(x, "lose -1", () -> x.lose(-1));
        Check.illegal(x, "lose 4", () -> x.lose(4));
    }
}
