/** What the document tells ahead of the hour: the object, numbers, sets, the store, settings. */
final class TermsTest {
    private TermsTest() { }

    public static void main(String[] args) {
        answersUpToTheCall512();
        divisionsAreRoundedDown();
        shareIsNoInteger();
        meritIsFuelForTenKilowatts();
        setsAre0To3();
        setsHaveBounds();
        setsGoThroughTheirStates();
        hoursLeftAre1To4();
        setsAtFirst();
        forecastIsFor48Hours();
        storeTakesItsLoadUnlessShed();
        warmthBecomesMoreInAShedHour();
        warmthBecomesLessInAnotherHour();
        spoiledIfGreaterThanSetting1();
        spoiledInAnHourInWhichItCools();
        notSpoiledBetweenHours();
        spoiledOnceForGood();
        setAloneDoesNotSpoil();
        spoiledOneTakesItsLoad();
        spoiledOneBecomesWarm();
        settingsAtFirst();
        setting0HasBounds();
        setting1HasBounds();
        Check.end();
    }

    /** Doc, What it is: An object is used for at most 512 calls after it has been made; what
     * later calls answer is free. */
    private static void answersUpToTheCall512() {
        IslandReserve x = new IslandReserve();
        for (int call = 1; call <= 510; call++) {
            Check.due("call " + call, x.forecast(47, call), call == 1 ? 100 : call - 1);
        }
        Check.due("call 511", x.count(14), 6);
        Check.due("call 512", x.undo(), 5);
        IslandReserve y = new IslandReserve();
        long first = y.digest();
        for (int call = 2; call <= 512; call++) {
            Check.due("digest, call " + call, y.digest(), first);
        }
    }

    /** Doc, Terms: divisions are rounded down (all divided numbers are at least 0). */
    private static void divisionsAreRoundedDown() {
        fuelOf(1, 0, 0);
        fuelOf(1, 1, 0);
        fuelOf(1, 9, 0);
        fuelOf(1, 10, 1);
        fuelOf(1, 11, 1);
        fuelOf(1, 19, 1);
        fuelOf(1, 20, 2);
        fuelOf(3, 33, 9);
        fuelOf(3, 34, 10);
        fuelOf(99, 1, 9);
        fuelOf(99, 500, 4950);
    }

    private static void fuelOf(int merit, int load, long wanted) {
        IslandReserve x = new IslandReserve();
        x.rate(0, 500, 0, merit, 0);
        x.start(0);
        x.set(0, 0);
        x.forecast(0, load);
        x.pass(1);
        Check.due("fuel of merit " + merit + ", load " + load, x.setOf(0, 7), wanted);
    }

    /** Doc, Terms: All numbers are integers, but for a share; */
    private static void shareIsNoInteger() {
        IslandReserve x = new IslandReserve();
        x.start(0);
        x.start(1);
        x.pass(1);
        x.stop(0);
        x.pass(1);
        Check.dueShare("a share", x.safeShare(), 0.5);
    }

    /** Doc, Terms: Loads are in kilowatts. | Doc, Sets: a merit, 1 to 99 (fuel for 10 kilowatts
     * in an hour), */
    private static void meritIsFuelForTenKilowatts() {
        for (int merit = 1; merit <= 99; merit++) {
            fuelOf(merit, 10, merit);
        }
    }

    /** Doc, Sets: There are 4 sets, numbered from 0. */
    private static void setsAre0To3() {
        Check.History running = x -> startAll(x, 0);
        ofSets(Check.NEW, "rate", (x, set) -> x.rate(set, 50, 0, 1, 0));
        ofSets(Check.NEW, "start", (x, set) -> x.start(set));
        ofSets(running, "stop", (x, set) -> x.stop(set));
        ofSets(Check.NEW, "lose", (x, set) -> x.lose(set));
        ofSets(Check.NEW, "setOf", (x, set) -> x.setOf(set, 0));
        ofSets(Check.NEW, "ifLost", (x, set) -> x.ifLost(set));
        IslandReserve x = Check.after(running);
        Check.due("all of them run", x.count(1), 4);
        x.set(0, 0);
        x.forecast(0, 800);
        Check.counts(x, "four sets of 200", 3, 800, 0, 0, 0, 0);
        x.forecast(0, 801);
        Check.counts(x, "four sets of 200", 3, 801, 1, 0, 0, 0);
    }

    private static void ofSets(Check.History history, String what, Check.AskWith ask) {
        Check.bounds(history, what, 0, 3, Check.ILLEGAL, ask);
        for (int set = 1; set <= 2; set++) {
            int inner = set;
            Check.taken(history, what + " " + set, x -> ask.of(x, inner));
        }
    }

    /** Doc, Sets: A set has a greatest load, 50 to 500, a least load, 0 to its greatest one, |
     * Doc, Sets: and hours to warm up, 0 to 4. */
    private static void setsHaveBounds() {
        IslandReserve x = new IslandReserve();
        x.rate(0, 50, 0, 1, 0);
        Check.properties(x, "the least numbers", 0, 0, 50, 0, 1, 0);
        x.rate(0, 500, 500, 99, 4);
        Check.properties(x, "the greatest numbers", 0, 0, 500, 500, 99, 4);
        Check.refused(Check.NEW, "greatest 49", Check.ILLEGAL, y -> y.rate(0, 49, 0, 1, 0));
        Check.refused(Check.NEW, "greatest 501", Check.ILLEGAL, y -> y.rate(0, 501, 0, 1, 0));
        Check.refused(Check.NEW, "least -1", Check.ILLEGAL, y -> y.rate(0, 50, -1, 1, 0));
        Check.refused(Check.NEW, "least 51 of 50", Check.ILLEGAL, y -> y.rate(0, 50, 51, 1, 0));
        Check.refused(Check.NEW, "merit 0", Check.ILLEGAL, y -> y.rate(0, 50, 0, 0, 0));
        Check.refused(Check.NEW, "merit 100", Check.ILLEGAL, y -> y.rate(0, 50, 0, 100, 0));
        Check.refused(Check.NEW, "hours -1", Check.ILLEGAL, y -> y.rate(0, 50, 0, 1, -1));
        Check.refused(Check.NEW, "hours 5", Check.ILLEGAL, y -> y.rate(0, 50, 0, 1, 5));
    }

    /** Doc, Sets: It stands, or warms up (with hours left, 1 to 4), or runs, or is lost. */
    private static void setsGoThroughTheirStates() {
        IslandReserve x = new IslandReserve();
        Check.properties(x, "stands", 0, 4, 0, 0);
        x.start(0);
        Check.properties(x, "warms up", 0, 4, 1, 1);
        x.pass(1);
        Check.properties(x, "runs", 0, 4, 2, 0);
        x.lose(0);
        Check.properties(x, "is lost", 0, 4, 3, 0);
        x.lose(0);
        Check.properties(x, "stands again", 0, 4, 0, 0);
    }

    /** Doc, Sets: warms up (with hours left, 1 to 4), */
    private static void hoursLeftAre1To4() {
        IslandReserve x = new IslandReserve();
        x.rate(0, 200, 60, 10, 4);
        x.start(0);
        for (int left = 4; left >= 1; left--) {
            Check.properties(x, "hours left", 0, 4, 1, left);
            x.pass(1);
        }
        Check.properties(x, "no hours left", 0, 4, 2, 0);
    }

    /** Doc, Sets: At first all stand, with the greatest load 200, the least 60, the merits 10,
     * 20, 30 and 40 (the set 0 first), and 1 hour to warm up. */
    private static void setsAtFirst() {
        IslandReserve x = new IslandReserve();
        Check.ofEachSet(x, "at first", 0, 200, 200, 200, 200);
        Check.ofEachSet(x, "at first", 1, 60, 60, 60, 60);
        Check.ofEachSet(x, "at first", 2, 10, 20, 30, 40);
        Check.ofEachSet(x, "at first", 3, 1, 1, 1, 1);
        Check.ofEachSet(x, "at first", 4, 0, 0, 0, 0);
    }

    /** Doc, Sets: Load, the store There is a forecast for 48 hours, 0 to 47, each with a load,
     * 0 to 1500, at first 100 each. */
    private static void forecastIsFor48Hours() {
        IslandReserve x = new IslandReserve();
        for (int hour = 0; hour <= 47; hour++) {
            Check.due("at first, hour " + hour, x.hour(hour, 0), 100);
        }
        Check.bounds(Check.NEW, "forecast(hour, 0)", 0, 47, Check.ILLEGAL,
                (y, hour) -> y.forecast(hour, 0));
        Check.bounds(Check.NEW, "hour(hour, 0)", 0, 47, Check.ILLEGAL,
                (y, hour) -> y.hour(hour, 0));
        x.forecast(0, 0);
        x.forecast(47, 1500);
        Check.due("the least load", x.hour(0, 0), 0);
        Check.due("the greatest load", x.hour(47, 0), 1500);
    }

    /** Doc, Sets: The cold store takes setting 0 besides, unless it is shed. */
    private static void storeTakesItsLoadUnlessShed() {
        IslandReserve x = new IslandReserve();
        x.forecast(0, 7);
        Check.due("with the store", x.count(3), 87);
        x.set(0, 300);
        Check.due("with the greatest store", x.count(3), 307);
        x.set(0, 0);
        Check.due("with the least store", x.count(3), 7);
        x.set(0, 300);
        x.shed();
        Check.due("shed", x.count(3), 7);
        x.shed();
        Check.due("taken again", x.count(3), 307);
    }

    /** Doc, Sets: The store has a warmth, at first 0: in an hour in which it is shed, it becomes
     * 1 more; */
    private static void warmthBecomesMoreInAShedHour() {
        IslandReserve x = new IslandReserve();
        Check.due("at first", x.count(8), 0);
        x.shed();
        Check.due("no hour has gone by", x.count(8), 0);
        for (int hours = 1; hours <= 48; hours++) {
            x.pass(1);
            Check.due("shed for " + hours, x.count(8), hours);
        }
    }

    /** Doc, Sets: in another one, 1 less (0 at least). */
    private static void warmthBecomesLessInAnotherHour() {
        IslandReserve x = new IslandReserve();
        x.pass(1);
        Check.due("0 stays 0", x.count(8), 0);
        x.shed();
        x.pass(2);
        x.shed();
        Check.due("no hour has gone by", x.count(8), 2);
        x.pass(1);
        Check.due("1 less", x.count(8), 1);
        x.pass(1);
        Check.due("down to 0", x.count(8), 0);
        x.pass(1);
        Check.due("0 at least", x.count(8), 0);
        x.shed();
        x.pass(1);
        Check.due("nothing is owed", x.count(8), 1);
    }

    /** Doc, Sets: It is spoiled if its warmth is greater than setting 1 when an hour has gone by */
    private static void spoiledIfGreaterThanSetting1() {
        for (int borne = 0; borne <= 47; borne++) {
            int warmth = borne;
            IslandReserve x = Check.after(y -> y.set(1, warmth));
            x.shed();
            if (borne > 0) {
                x.pass(borne);
            }
            Check.counts(x, "as warm as it bears", 8, borne, 0);
            x.pass(1);
            Check.counts(x, "warmer by 1", 8, borne + 1, 1);
        }
        IslandReserve most = Check.after(y -> y.set(1, 48));
        most.shed();
        most.pass(48);
        Check.counts(most, "as warm as can be", 8, 48, 0);
    }

    /** Doc, Sets: is greater than setting 1 when an hour has gone by */
    private static void spoiledInAnHourInWhichItCools() {
        IslandReserve x = warm(5);
        x.shed();
        x.set(1, 3);
        x.pass(1);
        Check.counts(x, "4 is above 3 when the hour has gone by", 8, 4, 1);
        IslandReserve y = warm(5);
        y.shed();
        y.set(1, 4);
        y.pass(1);
        Check.counts(y, "4 is not above 4", 8, 4, 0);
    }

    /** Doc, Sets: when an hour has gone by */
    private static void notSpoiledBetweenHours() {
        IslandReserve x = warm(6);
        Check.counts(x, "six hours", 8, 6, 0);
        x.set(1, 7);
        x.pass(1);
        Check.counts(x, "it bore more in this hour", 8, 7, 0);
        x.set(1, 0);
        x.shed();
        x.set(1, 6);
        x.pass(1);
        Check.counts(x, "between the hours it bore nothing", 8, 6, 0);
    }

    /** Doc, Sets: (once for good; */
    private static void spoiledOnceForGood() {
        IslandReserve x = warm(7);
        Check.counts(x, "spoiled", 8, 7, 1);
        x.set(1, 48);
        Check.counts(x, "it bears more", 8, 7, 1);
        x.shed();
        x.pass(1);
        Check.counts(x, "it cools", 8, 6, 1);
        x.pass(10);
        Check.counts(x, "it is cold", 8, 0, 1);
        x.shed();
        x.pass(1);
        x.shed();
        Check.counts(x, "shed and taken again", 8, 1, 1);
    }

    /** Doc, Sets: set() alone does not spoil it; */
    private static void setAloneDoesNotSpoil() {
        IslandReserve x = warm(5);
        x.set(1, 4);
        Check.counts(x, "no hour has gone by", 8, 5, 0);
        x.set(1, 0);
        Check.counts(x, "no hour has gone by", 8, 5, 0);
        x.pass(1);
        Check.counts(x, "an hour has gone by", 8, 6, 1);
    }

    /** Doc, Sets: a spoiled one takes its load, */
    private static void spoiledOneTakesItsLoad() {
        IslandReserve x = warm(7);
        Check.due("shed", x.count(3), 100);
        x.shed();
        Check.due("taken", x.count(3), 180);
        x.pass(1);
        Check.due("in an hour that went by", x.hour(7, 1), 180);
    }

    /** Doc, Sets: and becomes warm, as before). */
    private static void spoiledOneBecomesWarm() {
        IslandReserve x = warm(7);
        x.pass(1);
        Check.counts(x, "warmer", 8, 8, 1);
        x.shed();
        x.pass(1);
        Check.counts(x, "colder", 8, 7, 1);
    }

    /** Doc, Settings: at first 80; | Doc, Settings: at first 6. */
    private static void settingsAtFirst() {
        IslandReserve x = new IslandReserve();
        Check.due("setting(0)", x.setting(0), 80);
        Check.due("setting(1)", x.setting(1), 6);
    }

    /** Doc, Settings: 0: the load of the store, 0 to 300, at first 80; */
    private static void setting0HasBounds() {
        Check.bounds(Check.NEW, "set(0, value)", 0, 300, Check.ILLEGAL, (x, v) -> x.set(0, v));
        IslandReserve x = new IslandReserve();
        x.set(0, 300);
        Check.due("the load of the store", x.count(3), 400);
    }

    /** Doc, Settings: 1: warmth that it bears, 0 to 48, at first 6. */
    private static void setting1HasBounds() {
        Check.bounds(Check.NEW, "set(1, value)", 0, 48, Check.ILLEGAL, (x, v) -> x.set(1, v));
        Check.counts(warm(6), "what it bears at first", 8, 6, 0);
        Check.counts(warm(7), "what it bears at first", 8, 7, 1);
    }

    /** An island whose store has been shed for as many hours, and still is. */
    private static IslandReserve warm(int hours) {
        IslandReserve x = new IslandReserve();
        x.shed();
        x.pass(hours);
        return x;
    }

    private static void startAll(IslandReserve x, int hours) {
        for (int set = 0; set <= 3; set++) {
            x.rate(set, 200, 60, 10, hours);
            x.start(set);
        }
    }
}
