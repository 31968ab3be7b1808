/** Promises 6 to 9: shed, forecast, pass, set; and what happens in an hour. */
final class HoursTest {
    private HoursTest() { }

    public static void main(String[] args) {
        shedAndTake();
        warmthAndSpoiling();
        spoiledWhileItCools();
        forecastChanges();
        forecastRefuses();
        passCountsDark();
        passRefuses();
        leastLoadsBurnOff();
        loadsByMerit();
        reserveBearsTheGreatest();
        fuelIsRoundedForEachSet();
        setChanges();
        setRefuses();
        Check.end();
    }

    private static void shedAndTake() {
        IslandReserve x = new IslandReserve();
        Check.due("shed", x.shed(), 1);
        Check.due("shed: load", x.count(3), 100);
        Check.due("shed: count(10)", x.count(10), 1);
        x.pass(1);
        Check.hourIs(x, "shed", 0, 100, 100, 100, 0, 0, 0, 0);
        Check.due("take", x.shed(), 0);
        Check.due("taken: load", x.count(3), 180);
        Check.due("taken: hour(0, 1) stays", x.hour(0, 1), 100);
        Check.due("undo", x.undo(), 2);
        Check.due("undone: count(10)", x.count(10), 1);
    }

    private static void warmthAndSpoiling() {
        IslandReserve x = new IslandReserve();
        x.pass(1);
        Check.due("warmth is 0 at least", x.count(8), 0);
        x.shed();
        x.pass(6);
        Check.counts(x, "borne", 8, 6, 0);
        x.pass(1);
        Check.counts(x, "not borne", 8, 7, 1);
        x.shed();
        x.pass(3);
        Check.counts(x, "cools, and stays spoiled", 8, 4, 1);
        Check.due("a spoiled one takes its load", x.count(3), 180);
        x.pass(10);
        Check.counts(x, "cold", 8, 0, 1);
        x.shed();
        x.pass(2);
        Check.counts(x, "a spoiled one becomes warm", 8, 2, 1);
        IslandReserve y = new IslandReserve();
        y.shed();
        y.pass(7);
        y.undo();
        Check.counts(y, "undone", 8, 0, 0, 1);
    }

    private static void spoiledWhileItCools() {
        IslandReserve x = new IslandReserve();
        x.shed();
        x.pass(5);
        x.shed();
        x.set(1, 3);
        Check.counts(x, "set alone does not spoil", 8, 5, 0);
        x.pass(1);
        Check.counts(x, "4 is above 3 when the hour has gone by", 8, 4, 1);
        IslandReserve y = new IslandReserve();
        y.shed();
        y.pass(5);
        y.shed();
        y.set(1, 4);
        y.pass(1);
        Check.counts(y, "4 is not above 4", 8, 4, 0);
        IslandReserve z = new IslandReserve();
        z.set(1, 0);
        z.pass(1);
        Check.counts(z, "nothing is borne, cold", 8, 0, 0);
        z.shed();
        z.pass(1);
        Check.counts(z, "nothing is borne, warm", 8, 1, 1);
        IslandReserve w = new IslandReserve();
        w.set(1, 48);
        w.shed();
        w.pass(48);
        Check.counts(w, "48 hours are borne", 8, 48, 0);
    }

    private static void forecastChanges() {
        IslandReserve x = new IslandReserve();
        Check.due("forecast", x.forecast(0, 1500), 100);
        Check.due("forecast", x.forecast(47, 0), 100);
        Check.due("forecast again", x.forecast(0, 7), 1500);
        Check.due("hour(0, 0)", x.hour(0, 0), 7);
        Check.due("hour(1, 0)", x.hour(1, 0), 100);
        Check.due("hour(47, 0)", x.hour(47, 0), 0);
        Check.due("load of now", x.count(3), 87);
        x.pass(1);
        Check.due("forecast of what has gone by", x.forecast(0, 300), 7);
        Check.hourIs(x, "the load stays", 0, 300, 87, 87, 0, 0, 0, 0);
        Check.due("undo", x.undo(), 4);
        Check.due("undone", x.hour(0, 0), 7);
    }

    private static void forecastRefuses() {
        IslandReserve x = new IslandReserve();
        Check.illegal(x, "forecast hour -1", () -> x.forecast(-1, 0));
        Check.illegal(x, "forecast hour 48", () -> x.forecast(48, 0));
        Check.illegal(x, "forecast load -1", () -> x.forecast(0, -1));
        Check.illegal(x, "forecast load 1501", () -> x.forecast(0, 1501));
    }

    private static void passCountsDark() {
        IslandReserve x = new IslandReserve();
        x.rate(0, 200, 60, 10, 3);
        x.start(0);
        x.forecast(4, 121);
        Check.due("pass", x.pass(5), 3);
        Check.counts(x, "passed", 0, 5, 1, 0);
        Check.counts(x, "passed", 11, 3, 5);
        Check.hourIs(x, "dark by one", 4, 121, 201, 1, 0, 0, 0, 1);
        Check.due("as one call", x.count(14), 4);
        Check.due("what was dark before is not told again", x.pass(1), 0);
        x.forecast(6, 300);
        Check.due("one more", x.pass(2), 1);
        x.undo();
        x.undo();
        x.undo();
        Check.due("undo", x.undo(), 2);
        Check.counts(x, "undone", 0, 0, 0, 1);
        Check.hourIs(x, "undone", 0, 100, -1, -1, -1, -1, -1, -1);
        Check.due("pass to the end", x.pass(48), 3);
        Check.due("the hour", x.count(0), 48);
        Check.hourIs(x, "the last", 47, 100, 180, 0, 0, 20, 0, 1);
    }

    private static void passRefuses() {
        IslandReserve x = new IslandReserve();
        Check.illegal(x, "pass 0", () -> x.pass(0));
        Check.illegal(x, "pass -1", () -> x.pass(-1));
        Check.illegal(x, "pass 49", () -> x.pass(49));
        Check.illegal(x, "pass greatest int", () -> x.pass(Integer.MAX_VALUE));
        x.pass(1);
        Check.badState(x, "pass 48 from 1", () -> x.pass(48));
        Check.illegal(x, "pass 49 from 1", () -> x.pass(49));
        x.pass(47);
        Check.badState(x, "pass 1 from 48", () -> x.pass(1));
        Check.illegal(x, "pass 0 from 48", () -> x.pass(0));
    }

    private static void leastLoadsBurnOff() {
        IslandReserve x = ofRunning(3);
        x.set(0, 0);
        x.forecast(1, 179);
        x.forecast(2, 180);
        x.forecast(3, 181);
        x.forecast(4, 0);
        x.pass(3);
        Check.hourIs(x, "one too much", 1, 179, 179, 0, 1, 420, 1, 7);
        Check.hourIs(x, "just as much", 2, 180, 180, 0, 0, 420, 1, 7);
        Check.hourIs(x, "one too little", 3, 181, 181, 0, 0, 419, 1, 7);
        Check.properties(x, "fuel", 0, 7, 60 + 60 + 60 + 61, 4);
        Check.counts(x, "without a load", 3, 0, 0, 180, 420, 1);
    }

    private static void loadsByMerit() {
        IslandReserve x = new IslandReserve();
        x.rate(0, 100, 10, 30, 0);
        x.rate(1, 110, 20, 20, 0);
        x.rate(2, 120, 30, 20, 0);
        x.rate(3, 130, 40, 40, 0);
        for (int set = 0; set < 4; set++) {
            x.start(set);
        }
        x.set(0, 0);
        loadsOf(x, 90, 10, 20, 30, 40);
        loadsOf(x, 100, 10, 20, 30, 40);
        loadsOf(x, 150, 10, 70, 30, 40);
        loadsOf(x, 190, 10, 110, 30, 40);
        loadsOf(x, 191, 10, 110, 31, 40);
        loadsOf(x, 281, 11, 110, 120, 40);
        loadsOf(x, 400, 100, 110, 120, 70);
        loadsOf(x, 460, 100, 110, 120, 130);
        loadsOf(x, 500, 100, 110, 120, 130);
        Check.counts(x, "what none can bear", 4, 40, 0, 0, 0);
        x.stop(1);
        loadsOf(x, 150, 10, 0, 100, 40);
    }

    private static void loadsOf(IslandReserve x, int load, long... wanted) {
        x.forecast(x.count(0), load);
        for (int set = 0; set < 4; set++) {
            Check.due("load " + load + ": setOf(" + set + ", 6)", x.setOf(set, 6), wanted[set]);
        }
    }

    private static void reserveBearsTheGreatest() {
        IslandReserve x = new IslandReserve();
        x.rate(0, 300, 0, 10, 0);
        x.rate(1, 120, 0, 20, 0);
        x.rate(2, 100, 0, 30, 0);
        x.set(0, 0);
        x.forecast(0, 0);
        Check.counts(x, "no sets, no load", 4, 0, 0, 0, 1);
        x.start(0);
        Check.counts(x, "one set, no load", 4, 0, 0, 300, 1);
        x.forecast(0, 1);
        Check.counts(x, "one set, a load", 4, 0, 0, 299, 0);
        x.start(1);
        x.start(2);
        x.forecast(0, 220);
        Check.counts(x, "without the greatest just enough", 4, 0, 0, 300, 1);
        x.forecast(0, 221);
        Check.counts(x, "without the greatest too little", 4, 0, 0, 299, 0);
        x.pass(1);
        Check.counts(x, "counted", 11, 0, 1);
    }

    private static void fuelIsRoundedForEachSet() {
        IslandReserve x = new IslandReserve();
        x.rate(0, 50, 0, 3, 0);
        x.rate(1, 500, 13, 7, 0);
        x.start(0);
        x.start(1);
        x.set(0, 0);
        x.forecast(0, 72);
        x.pass(1);
        Check.due("3 * 50 / 10", x.setOf(0, 7), 15);
        Check.due("7 * 22 / 10", x.setOf(1, 7), 15);
        x.forecast(1, 26);
        x.pass(1);
        Check.due("and 3 * 13 / 10", x.setOf(0, 7), 18);
        Check.due("and 7 * 13 / 10", x.setOf(1, 7), 24);
        Check.due("together", x.count(13), 42);
        Check.due("hours", x.setOf(1, 8), 2);
    }

    private static void setChanges() {
        IslandReserve x = new IslandReserve();
        Check.due("set(0, 300)", x.set(0, 300), 80);
        Check.due("load of now", x.count(3), 400);
        Check.due("set(0, 0)", x.set(0, 0), 300);
        Check.due("set(1, 48)", x.set(1, 48), 6);
        Check.due("set(1, 0)", x.set(1, 0), 48);
        Check.due("setting(0)", x.setting(0), 0);
        Check.due("setting(1)", x.setting(1), 0);
        Check.due("undo", x.undo(), 3);
        Check.due("undone", x.setting(1), 48);
    }

    private static void setRefuses() {
        IslandReserve x = new IslandReserve();
        Check.outOfBounds(x, "set(-1, 0)", () -> x.set(-1, 0));
        Check.outOfBounds(x, "set(2, 0)", () -> x.set(2, 0));
        Check.outOfBounds(x, "set(2, -1), both wrong", () -> x.set(2, -1));
        Check.illegal(x, "set(0, -1)", () -> x.set(0, -1));
        Check.illegal(x, "set(0, 301)", () -> x.set(0, 301));
        Check.illegal(x, "set(1, -1)", () -> x.set(1, -1));
        Check.illegal(x, "set(1, 49)", () -> x.set(1, 49));
    }

    /** An island with as many sets that run, from the set 0 on, at the hour 1. */
    private static IslandReserve ofRunning(int sets) {
        IslandReserve x = new IslandReserve();
        for (int set = 0; set < sets; set++) {
            x.start(set);
        }
        x.forecast(0, 0);
        x.set(0, 0);
        x.pass(1);
        return x;
    }
}
