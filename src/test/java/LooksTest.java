/** Promises 15 to 18: setOf, hour, count, setting. */
final class LooksTest {
    private LooksTest() { }

    public static void main(String[] args) {
        setOfTells();
        setOfRefuses();
        hourTells();
        hourRefuses();
        countTells();
        countAtTheEnd();
        countRefuses();
        settingTells();
        settingRefuses();
        looksChangeNothing();
        Check.end();
    }

    private static void setOfTells() {
        IslandReserve x = new IslandReserve();
        x.rate(1, 300, 100, 7, 2);
        x.rate(2, 90, 30, 5, 0);
        x.start(1);
        x.start(2);
        x.start(3);
        x.lose(3);
        Check.properties(x, "set", 0, 0, 200, 60, 10, 1, 0, 0, 0, 0, 0);
        Check.properties(x, "set", 1, 0, 300, 100, 7, 2, 1, 2, 0, 0, 0);
        Check.properties(x, "set", 2, 0, 90, 30, 5, 0, 2, 0, 90, 0, 0);
        Check.properties(x, "set", 3, 0, 200, 60, 40, 1, 3, 0, 0, 0, 0);
        x.pass(1);
        Check.properties(x, "an hour on", 1, 4, 1, 1, 0, 0, 0);
        Check.properties(x, "an hour on", 2, 4, 2, 0, 90, 45, 1);
        x.pass(1);
        Check.properties(x, "two hours on", 1, 4, 2, 0, 100, 70, 1);
        Check.properties(x, "two hours on", 2, 4, 2, 0, 80, 85, 2);
    }

    private static void setOfRefuses() {
        IslandReserve x = new IslandReserve();
        Check.illegal(x, "setOf(-1, 0)", () -> x.setOf(-1, 0));
        Check.illegal(x, "setOf(4, 0)", () -> x.setOf(4, 0));
        Check.illegal(x, "setOf(0, -1)", () -> x.setOf(0, -1));
        Check.illegal(x, "setOf(0, 9)", () -> x.setOf(0, 9));
    }

    private static void hourTells() {
        IslandReserve x = new IslandReserve();
        x.start(0);
        x.start(2);
        x.forecast(1, 400);
        x.pass(2);
        x.shed();
        x.stop(0);
        x.pass(1);
        Check.hourIs(x, "hour", 0, 100, 180, 0, 0, 220, 1, 5);
        Check.hourIs(x, "hour", 1, 400, 480, 80, 0, 0, 0, 5);
        Check.hourIs(x, "hour", 2, 100, 100, 0, 0, 100, 0, 4);
        Check.hourIs(x, "hour", 3, 100, -1, -1, -1, -1, -1, -1);
        x.undo();
        Check.hourIs(x, "hour", 2, 100, -1, -1, -1, -1, -1, -1);
        x.set(0, 7);
        Check.due("what has gone by stays", x.hour(1, 1), 480);
    }

    private static void hourRefuses() {
        IslandReserve x = new IslandReserve();
        Check.illegal(x, "hour(-1, 0)", () -> x.hour(-1, 0));
        Check.illegal(x, "hour(48, 0)", () -> x.hour(48, 0));
        Check.illegal(x, "hour(0, -1)", () -> x.hour(0, -1));
        Check.illegal(x, "hour(0, 7)", () -> x.hour(0, 7));
        Check.illegal(x, "hour(47, 7)", () -> x.hour(47, 7));
    }

    private static void countTells() {
        IslandReserve x = new IslandReserve();
        x.rate(0, 200, 60, 10, 0);
        x.start(0);
        x.start(1);
        x.start(2);
        Check.counts(x, "count", 0, 0, 1, 2, 180, 0, 0, 20, 0, 0, 0, 0, 0, 0, 0, 4);
        x.forecast(1, 20);
        x.shed();
        x.pass(1);
        Check.counts(x, "count", 0, 1, 3, 0, 20, 0, 160, 420, 1, 1, 0, 1, 0, 0, 360, 6);
        x.set(1, 0);
        x.forecast(1, 601);
        x.pass(1);
        Check.counts(x, "count", 0, 2, 3, 0, 100, 0, 80, 420, 1, 2, 1, 1, 1, 1, 1560, 6);
    }

    private static void countAtTheEnd() {
        IslandReserve x = new IslandReserve();
        x.forecast(46, 46);
        x.forecast(47, 470);
        x.start(3);
        x.pass(47);
        Check.counts(x, "hour 47", 0, 47, 1, 0, 550, 350, 0, 0, 0);
        x.pass(1);
        Check.counts(x, "hour 48", 0, 48, 1, 0, 550, 350, 0, 0, 0);
        Check.due("hour 48: load of a set", x.setOf(3, 6), 200);
        x.shed();
        Check.counts(x, "hour 48, shed", 3, 470, 270);
        Check.due("hour 48: what has been", x.hour(47, 1), 550);
        Check.due("hour 48: ifLost", x.ifLost(3), 470);
    }

    private static void countRefuses() {
        IslandReserve x = new IslandReserve();
        Check.illegal(x, "count(-1)", () -> x.count(-1));
        Check.illegal(x, "count(15)", () -> x.count(15));
    }

    private static void settingTells() {
        IslandReserve x = new IslandReserve();
        Check.due("setting(0)", x.setting(0), 80);
        Check.due("setting(1)", x.setting(1), 6);
        x.set(0, 5);
        x.set(1, 9);
        Check.due("setting(0)", x.setting(0), 5);
        Check.due("setting(1)", x.setting(1), 9);
    }

    private static void settingRefuses() {
        IslandReserve x = new IslandReserve();
        Check.outOfBounds(x, "setting(-1)", () -> x.setting(-1));
        Check.outOfBounds(x, "setting(2)", () -> x.setting(2));
        Check.outOfBounds(x, "setting(least int)", () -> x.setting(Integer.MIN_VALUE));
    }

    private static void looksChangeNothing() {
        IslandReserve x = new IslandReserve();
        x.start(0);
        x.pass(2);
        x.append('s');
        long before = x.digest();
        x.setOf(0, 6);
        x.hour(0, 3);
        x.count(4);
        x.setting(1);
        x.ifLost(0);
        x.cheapest(9, 0);
        x.firstDark();
        x.ifShed();
        x.bestStart();
        x.safeShare();
        x.firstError();
        Check.due("digest", x.digest(), before);
        Check.due("undo", x.undo(), 1);
        Check.due("the hour", x.count(0), 0);
    }
}
