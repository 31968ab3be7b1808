/** The remark ahead of what would be, and promises 19 to 24: ifLost, cheapest, firstDark, ifShed,
 * bestStart, safeShare. */
final class OutlookTest {
    /** Saved states are dropped; sets stand, warm up, run, and are lost; some text is typed. */
    private static final Check.History BUSY = x -> {
        x.rate(2, 300, 50, 7, 0);
        x.rate(1, 150, 10, 9, 4);
        x.start(2);
        x.shed();
        x.pass(5);
        x.start(1);
        x.lose(3);
        x.forecast(30, 700);
        Check.type(x, "h1;");
    };
    private static final Check.History AT_THE_END = x -> {
        BUSY.play(x);
        x.pass(43);
    };

    private OutlookTest() { }

    public static void main(String[] args) {
        whatWouldBeChangesNothing();
        ifLostTellsWhatWouldBeDark();
        ifLostOfASetThatDoesNotRun();
        ifLostLeavesTheOthersAsTheyAre();
        ifLostBounds();
        cheapestIsTheLeastFuel();
        cheapestIsPerhapsNoSet();
        cheapestWithoutLostSets();
        cheapestOfSetsThatDoNotRun();
        cheapestBearsForecastAndStore();
        cheapestHasAReserveThatIsEnough();
        cheapestPaysForLeastLoads();
        cheapestIsTheLeastMask();
        cheapestTellsThisFuel();
        cheapestIsNoneIfThereAreNone();
        cheapestOfAnyHour();
        cheapestBounds();
        firstDarkIsTheFirst();
        firstDarkFromTheHourOfNowOn();
        firstDarkLetsSetsWarmUp();
        firstDarkIsNoneIfNoneWould();
        firstDarkAtTheEnd();
        ifShedTellsHowManyFewer();
        ifShedOfAShedStore();
        ifShedFromNowOn();
        ifShedPlus100();
        bestStartOfSetsThatStand();
        bestStartByDarkHours();
        bestStartByFuel();
        bestStartByFuelOfAllSets();
        bestStartTheLowest();
        bestStartIsNoneIfNoneStands();
        bestStartIsNoneIfNoneHelps();
        bestStartUpToTheEnd();
        safeShareOfTheHoursSoFar();
        safeShareWithoutHours();
        Check.end();
    }

    /** Doc, Exceptions: Ahead of the calls `ifLost`, `cheapest`, `firstDark`, `ifShed`,
     * `bestStart`, `safeShare`, `digest` the interface says: ---- what would be; nothing is
     * changed. */
    private static void whatWouldBeChangesNothing() {
        Check.Ask[] asks = {x -> x.ifLost(2), x -> x.cheapest(30, 0), x -> x.cheapest(30, 1),
            IslandReserve::firstDark, IslandReserve::ifShed, IslandReserve::bestStart,
            x -> (long) x.safeShare(), IslandReserve::digest};
        for (Check.History history : new Check.History[] {Check.NEW, BUSY, AT_THE_END}) {
            for (int ask = 0; ask < asks.length; ask++) {
                Check.changesNothing(history, "look " + ask, asks[ask]);
            }
        }
    }

    /** Doc, Promise 19: Tells what losing a set would bring. | Doc, Promise 19: Returns what would
     * be dark in the hour of now, if this set was lost, */
    private static void ifLostTellsWhatWouldBeDark() {
        IslandReserve x = ofTwo();
        x.forecast(0, 20);
        Check.due("100 without the set 0", x.ifLost(0), 0);
        Check.due("100 without the set 1", x.ifLost(1), 0);
        x.forecast(0, 21);
        Check.due("101 without the set 0", x.ifLost(0), 1);
        Check.due("101 without the set 1", x.ifLost(1), 0);
        x.forecast(0, 71);
        Check.due("151 without the set 0", x.ifLost(0), 51);
        Check.due("151 without the set 1", x.ifLost(1), 1);
        x.shed();
        x.forecast(0, 10);
        Check.due("burned off is not dark", x.ifLost(0), 0);
        IslandReserve alone = new IslandReserve();
        alone.start(0);
        alone.pass(1);
        Check.due("the only one", alone.ifLost(0), 180);
    }

    /** Doc, Promise 19: if this set was lost, */
    private static void ifLostOfASetThatDoesNotRun() {
        IslandReserve x = ofTwo();
        x.start(2);
        x.lose(3);
        x.forecast(0, 170);
        Check.due("as it is", x.count(4), 0);
        Check.due("one that warms up", x.ifLost(2), 0);
        Check.due("a lost one", x.ifLost(3), 0);
        x.stop(2);
        x.forecast(0, 171);
        Check.due("as it is", x.count(4), 1);
        Check.due("one that stands", x.ifLost(2), 1);
        Check.due("a lost one is not mended", x.ifLost(3), 1);
    }

    /** Doc, Promise 19: and the others were as they are. */
    private static void ifLostLeavesTheOthersAsTheyAre() {
        IslandReserve x = ofTwo();
        x.start(2);
        x.start(3);
        Check.due("those that warm up do not run", x.ifLost(0), 80);
        x.stop(3);
        Check.due("those that stand do not run", x.ifLost(0), 80);
        Check.due("it still runs", x.setOf(0, 4), 2);
    }

    /** The set 0 bears 150, the set 1 bears 100. */
    private static IslandReserve ofTwo() {
        IslandReserve x = new IslandReserve();
        x.rate(0, 150, 60, 10, 0);
        x.rate(1, 100, 60, 20, 0);
        x.start(0);
        x.start(1);
        return x;
    }

    /** Doc, Promise 19: `set`: 0 to 3 | Doc, Promise 19: Throws `IllegalArgumentException` if set
     * is out of range */
    private static void ifLostBounds() {
        for (Check.History history : new Check.History[] {Check.NEW, BUSY, AT_THE_END}) {
            Check.bounds(history, "ifLost(set)", 0, 3, Check.ILLEGAL, (x, set) -> x.ifLost(set));
        }
    }

    /** Doc, Promise 20: Finds the cheapest sets for an hour, if they all ran. | Doc, Promise 20:
     * for the least fuel, */
    private static void cheapestIsTheLeastFuel() {
        IslandReserve x = new IslandReserve();
        cheapestIs(x, "180", 0, 3, 12 * 10 + 6 * 20);
        x.forecast(5, 600 - 80);
        cheapestIs(x, "600", 5, 15, 200 + 200 * 2 + 140 * 3 + 60 * 4);
        IslandReserve y = new IslandReserve();
        y.rate(0, 500, 0, 51, 0);
        y.rate(1, 500, 0, 50, 0);
        y.rate(2, 500, 0, 49, 0);
        y.rate(3, 500, 0, 50, 0);
        y.set(0, 0);
        y.forecast(9, 100);
        cheapestIs(y, "the least of all pairs", 9, 5, 490);
        y.rate(2, 500, 0, 50, 0);
        cheapestIs(y, "three alike, the dearest bears nothing", 9, 3, 500);
        y.rate(0, 500, 1, 51, 0);
        cheapestIs(y, "its least load costs nothing more yet", 9, 3, 495 + 5);
        y.rate(0, 500, 10, 51, 0);
        cheapestIs(y, "and now 1 more", 9, 6, 500);
    }

    /** Doc, Promise 20: as a mask (perhaps 0), */
    private static void cheapestIsPerhapsNoSet() {
        IslandReserve x = new IslandReserve();
        x.set(0, 0);
        x.forecast(5, 0);
        cheapestIs(x, "no load", 5, 0, 0);
        x.forecast(5, 1);
        cheapestIs(x, "a load of 1", 5, 3, 6 * 10 + 6 * 20);
        for (int set = 0; set <= 3; set++) {
            x.lose(set);
        }
        cheapestIs(x, "all are lost, and there is a load", 5, -1, -1);
        x.forecast(5, 0);
        cheapestIs(x, "all are lost, and there is no load", 5, 0, 0);
    }

    /** Doc, Promise 20: of those that are not lost, */
    private static void cheapestWithoutLostSets() {
        IslandReserve x = new IslandReserve();
        x.lose(0);
        cheapestIs(x, "without 0", 0, 6, 12 * 20 + 6 * 30);
        x.lose(2);
        cheapestIs(x, "without 0 and 2", 0, 10, 12 * 20 + 6 * 40);
        x.lose(0);
        cheapestIs(x, "without 2", 0, 3, 12 * 10 + 6 * 20);
        x.lose(0);
        x.lose(1);
        cheapestIs(x, "one is left", 0, -1, -1);
    }

    /** Doc, Promise 20: if they all ran. */
    private static void cheapestOfSetsThatDoNotRun() {
        IslandReserve x = new IslandReserve();
        cheapestIs(x, "all stand", 0, 3, 240);
        x.start(0);
        cheapestIs(x, "one warms up", 0, 3, 240);
        x.pass(1);
        cheapestIs(x, "one runs", 0, 3, 240);
        x.start(3);
        x.start(2);
        x.pass(1);
        x.stop(0);
        cheapestIs(x, "two others run", 0, 3, 240);
    }

    /** Doc, Promise 20: that could bear the forecast and the store, if it is not shed now, */
    private static void cheapestBearsForecastAndStore() {
        IslandReserve x = new IslandReserve();
        x.forecast(5, 120);
        cheapestIs(x, "200, two can", 5, 3, 140 + 60 * 2);
        x.forecast(5, 121);
        cheapestIs(x, "201, two can not", 5, 7, 81 + 60 * 2 + 60 * 3);
        x.shed();
        cheapestIs(x, "121, shed", 5, 3, 61 + 60 * 2);
        x.set(0, 300);
        cheapestIs(x, "121, shed", 5, 3, 61 + 60 * 2);
        x.shed();
        cheapestIs(x, "421", 5, 15, 200 + 101 * 2 + 60 * 3 + 60 * 4);
        x.set(0, 80);
        x.shed();
        x.pass(6);
        x.shed();
        x.forecast(2, 120);
        cheapestIs(x, "shed then, not shed now", 2, 3, 140 + 60 * 2);
    }

    /** Doc, Promise 20: with a reserve that is enough, */
    private static void cheapestHasAReserveThatIsEnough() {
        IslandReserve x = new IslandReserve();
        x.rate(0, 500, 0, 1, 0);
        x.rate(1, 100, 0, 50, 0);
        x.rate(2, 80, 0, 60, 0);
        x.lose(3);
        x.set(0, 0);
        x.forecast(0, 100);
        cheapestIs(x, "the others of 0 and 1 bear 100", 0, 3, 10);
        x.forecast(0, 101);
        cheapestIs(x, "the others of all three bear 180", 0, 7, 10);
        x.forecast(0, 180);
        cheapestIs(x, "just", 0, 7, 18);
        x.forecast(0, 181);
        cheapestIs(x, "no longer", 0, -1, -1);
    }

    /** Doc, Promise 20: that could bear */
    private static void cheapestPaysForLeastLoads() {
        IslandReserve y = new IslandReserve();
        y.rate(0, 500, 0, 50, 0);
        y.rate(1, 500, 401, 10, 0);
        y.rate(2, 400, 0, 20, 4);
        y.rate(3, 300, 0, 99, 4);
        y.forecast(9, 120);
        cheapestIs(y, "200; a great least load is dearer", 9, 5, 400);
        y.lose(2);
        y.lose(3);
        cheapestIs(y, "with it too much is burned off, but it is borne", 9, 3, 401);
    }

    /** Doc, Promise 20: of several the least mask; */
    private static void cheapestIsTheLeastMask() {
        IslandReserve x = new IslandReserve();
        for (int set = 0; set < 4; set++) {
            x.rate(set, 100, 0, 10, 0);
        }
        cheapestIs(x, "180: of five masks", 0, 7, 180);
        x.set(0, 0);
        cheapestIs(x, "100: of eleven masks", 0, 3, 100);
        x.lose(0);
        cheapestIs(x, "100: of four masks", 0, 6, 100);
        x.lose(1);
        cheapestIs(x, "100: of one mask", 0, 12, 100);
    }

    /** Doc, Promise 20: 1: this fuel | Doc, Promise 20: Returns the number; */
    private static void cheapestTellsThisFuel() {
        IslandReserve x = new IslandReserve();
        x.rate(0, 500, 13, 7, 0);
        x.rate(1, 500, 17, 9, 0);
        x.rate(2, 500, 500, 99, 0);
        x.rate(3, 500, 500, 99, 0);
        x.set(0, 0);
        x.forecast(0, 50);
        cheapestIs(x, "7 * 33 / 10 and 9 * 17 / 10", 0, 3, 23 + 15);
    }

    /** Doc, Promise 20: NONE if there are none. */
    private static void cheapestIsNoneIfThereAreNone() {
        IslandReserve x = new IslandReserve();
        x.set(0, 0);
        x.forecast(5, 600);
        cheapestIs(x, "all four can bear 600", 5, 15, 200 + 200 * 2 + 140 * 3 + 60 * 4);
        x.forecast(5, 601);
        cheapestIs(x, "none can bear 601 without one", 5, -1, -1);
        x.lose(1);
        x.lose(2);
        x.lose(3);
        x.forecast(5, 1);
        cheapestIs(x, "one alone has no reserve", 5, -1, -1);
    }

    /** Doc, Promise 20: `hour`: 0 to 47 | Doc, Promise 20: `what`: 0: the sets, */
    private static void cheapestOfAnyHour() {
        IslandReserve x = new IslandReserve();
        x.forecast(0, 121);
        x.forecast(47, 321);
        cheapestIs(x, "the hour 0", 0, 7, 81 + 60 * 2 + 60 * 3);
        cheapestIs(x, "the hour 47", 47, 15, 200 + 81 * 2 + 60 * 3 + 60 * 4);
        x.pass(48);
        cheapestIs(x, "the hour 0, at the end", 0, 7, 81 + 60 * 2 + 60 * 3);
        cheapestIs(x, "the hour 47, at the end", 47, 15, 200 + 81 * 2 + 60 * 3 + 60 * 4);
    }

    private static void cheapestIs(IslandReserve x, String when, int hour, long mask, long fuel) {
        Check.due(when + ": cheapest(" + hour + ", 0)", x.cheapest(hour, 0), mask);
        Check.due(when + ": cheapest(" + hour + ", 1)", x.cheapest(hour, 1), fuel);
    }

    /** Doc, Promise 20: Throws `IllegalArgumentException` if an argument is out of range */
    private static void cheapestBounds() {
        for (Check.History history : new Check.History[] {Check.NEW, BUSY, AT_THE_END}) {
            Check.bounds(history, "cheapest(hour, 1)", 0, 47, Check.ILLEGAL,
                    (x, hour) -> x.cheapest(hour, 1));
            Check.bounds(history, "cheapest(47, what)", 0, 1, Check.ILLEGAL,
                    (x, what) -> x.cheapest(47, what));
            Check.refused(history, "cheapest(48, 2)", Check.ILLEGAL, x -> x.cheapest(48, 2));
        }
    }

    /** Doc, Promise 21: Finds the first dark hour. | Doc, Promise 21: Returns the first hour, |
     * Doc, Promise 21: that would be dark, if nothing was done; */
    private static void firstDarkIsTheFirst() {
        IslandReserve x = ofOne();
        x.forecast(47, 120);
        Check.due("just borne", x.firstDark(), -1);
        x.forecast(47, 121);
        Check.due("the last hour", x.firstDark(), 47);
        x.forecast(46, 121);
        Check.due("the first of two", x.firstDark(), 46);
        x.forecast(1, 1500);
        Check.due("the first of three", x.firstDark(), 1);
        x.shed();
        Check.due("shed", x.firstDark(), 1);
        x.forecast(1, 200);
        Check.due("shed, and just borne", x.firstDark(), -1);
    }

    /** Doc, Promise 21: from that of now on, */
    private static void firstDarkFromTheHourOfNowOn() {
        IslandReserve x = ofOne();
        x.forecast(5, 121);
        x.forecast(9, 121);
        Check.due("the hour 0", x.firstDark(), 5);
        x.pass(5);
        Check.due("the hour of now", x.firstDark(), 5);
        x.pass(1);
        Check.due("what has gone by was dark, but is not asked", x.firstDark(), 9);
        x.pass(4);
        Check.due("none any more", x.firstDark(), -1);
        x.forecast(0, 1500);
        Check.due("a new forecast of what has gone by", x.firstDark(), -1);
    }

    /** Doc, Promise 21: if nothing was done; */
    private static void firstDarkLetsSetsWarmUp() {
        IslandReserve x = new IslandReserve();
        Check.due("none starts by itself", x.firstDark(), 0);
        x.rate(0, 200, 60, 10, 2);
        x.start(0);
        Check.due("one warms up for an hour still", x.firstDark(), 0);
        x.pass(1);
        Check.due("it runs in the next one", x.firstDark(), -1);
        x.stop(0);
        Check.due("it was stopped", x.firstDark(), 1);
    }

    /** Doc, Promise 21: NONE if none would, */
    private static void firstDarkIsNoneIfNoneWould() {
        Check.due("none would", ofOne().firstDark(), -1);
        IslandReserve x = new IslandReserve();
        x.set(0, 0);
        for (int hour = 0; hour <= 47; hour++) {
            x.forecast(hour, 0);
        }
        Check.due("no load, no sets", x.firstDark(), -1);
        x.forecast(47, 1);
        Check.due("a load of 1", x.firstDark(), 47);
    }

    /** Doc, Promise 21: or the hour is 48. */
    private static void firstDarkAtTheEnd() {
        IslandReserve x = new IslandReserve();
        x.pass(47);
        Check.due("the hour is 47", x.firstDark(), 47);
        x.pass(1);
        Check.due("the hour is 48", x.firstDark(), -1);
    }

    /** The set 0 runs and bears 200. */
    private static IslandReserve ofOne() {
        IslandReserve x = new IslandReserve();
        x.rate(0, 200, 60, 10, 0);
        x.start(0);
        return x;
    }

    /** Doc, Promise 22: Tells what shedding would bring. | Doc, Promise 22: Returns how many dark
     * hours fewer there would be up to the end, if the store was shed */
    private static void ifShedTellsHowManyFewer() {
        IslandReserve x = ofOne();
        Check.due("no difference", x.ifShed(), 100);
        x.forecast(3, 121);
        Check.due("one fewer", x.ifShed(), 101);
        x.forecast(4, 200);
        Check.due("two fewer", x.ifShed(), 102);
        x.forecast(5, 201);
        Check.due("dark in any case", x.ifShed(), 102);
        x.forecast(47, 150);
        Check.due("three fewer", x.ifShed(), 103);
        x.set(0, 0);
        Check.due("a store without a load", x.ifShed(), 100);
    }

    /** Doc, Promise 22: or taken, if it is shed, */
    private static void ifShedOfAShedStore() {
        IslandReserve x = ofOne();
        x.forecast(3, 121);
        x.forecast(4, 200);
        x.forecast(5, 201);
        x.shed();
        Check.due("two more", x.ifShed(), 98);
        x.set(0, 0);
        Check.due("a store without a load", x.ifShed(), 100);
    }

    /** Doc, Promise 22: from now on, */
    private static void ifShedFromNowOn() {
        IslandReserve x = ofOne();
        x.forecast(3, 121);
        x.forecast(4, 200);
        x.pass(3);
        Check.due("two fewer", x.ifShed(), 102);
        x.pass(1);
        Check.due("one has gone by", x.ifShed(), 101);
        x.pass(1);
        Check.due("both have", x.ifShed(), 100);
        IslandReserve y = new IslandReserve();
        y.rate(0, 100, 0, 10, 2);
        y.start(0);
        Check.due("while it warms up it is dark", y.ifShed(), 147);
    }

    /** Doc, Promise 22: plus 100. */
    private static void ifShedPlus100() {
        IslandReserve y = new IslandReserve();
        y.rate(0, 100, 0, 1, 0);
        y.start(0);
        Check.due("48 fewer", y.ifShed(), 148);
        y.shed();
        Check.due("48 more", y.ifShed(), 52);
        y.pass(47);
        Check.due("one more", y.ifShed(), 99);
        y.pass(1);
        Check.due("at the end", y.ifShed(), 100);
        y.shed();
        Check.due("at the end", y.ifShed(), 100);
    }

    /** Doc, Promise 23: Finds the set that is best started. | Doc, Promise 23: Returns of the sets
     * that stand the one */
    private static void bestStartOfSetsThatStand() {
        IslandReserve x = new IslandReserve();
        x.forecast(9, 520);
        Check.due("all stand", x.bestStart(), 0);
        x.start(0);
        Check.due("0 warms up", x.bestStart(), -1);
        x.forecast(9, 320);
        Check.due("0 warms up", x.bestStart(), 1);
        x.lose(1);
        Check.due("0 warms up, 1 is lost", x.bestStart(), 2);
        x.lose(2);
        Check.due("0 warms up, 1 and 2 are lost", x.bestStart(), 3);
        x.lose(3);
        Check.due("none stands", x.bestStart(), -1);
        x.pass(1);
        x.lose(2);
        Check.due("0 runs, 2 was mended", x.bestStart(), 2);
    }

    /** Doc, Promise 23: with whose start now the fewest dark hours would come up to the end, */
    private static void bestStartByDarkHours() {
        IslandReserve x = new IslandReserve();
        x.rate(0, 170, 0, 1, 0);
        x.rate(1, 200, 0, 99, 3);
        x.rate(2, 200, 0, 50, 4);
        x.rate(3, 180, 0, 98, 2);
        Check.due("the one that is warm first", x.bestStart(), 3);
        x.forecast(40, 110);
        x.forecast(41, 110);
        Check.due("2 are dark by 1, but 3 by 3", x.bestStart(), 1);
        x.lose(1);
        Check.due("3 are dark by 2 and by 3, with less fuel by 2", x.bestStart(), 2);
        x.forecast(41, 100);
        Check.due("3 are dark by 2, but 2 by 3", x.bestStart(), 3);
        x.forecast(41, 110);
        x.forecast(42, 110);
        Check.due("3 are dark by 2, but 4 by 3", x.bestStart(), 2);
    }

    /** Doc, Promise 23: of several the one with the least fuel up to the end, */
    private static void bestStartByFuel() {
        IslandReserve x = new IslandReserve();
        x.rate(0, 180, 0, 30, 1);
        x.rate(1, 180, 0, 20, 1);
        x.rate(2, 180, 0, 21, 1);
        Check.due("the least fuel", x.bestStart(), 1);
        x.rate(2, 180, 0, 19, 1);
        Check.due("the least fuel", x.bestStart(), 2);
        x.rate(2, 180, 180, 20, 1);
        x.forecast(47, 99);
        Check.due("one hour's fuel less", x.bestStart(), 1);
        x.rate(1, 180, 180, 20, 1);
        x.rate(2, 180, 0, 20, 1);
        Check.due("one hour's fuel less", x.bestStart(), 2);
    }

    /** Doc, Promise 23: the least fuel up to the end, */
    private static void bestStartByFuelOfAllSets() {
        // The set 1 would use less itself, but leaves more to the dear set 0.
        IslandReserve y = new IslandReserve();
        y.rate(0, 150, 0, 50, 0);
        y.rate(1, 100, 0, 60, 0);
        y.rate(2, 150, 0, 40, 0);
        y.lose(3);
        y.start(0);
        Check.due("the least fuel of all sets", y.bestStart(), 2);
    }

    /** Doc, Promise 23: of several the lowest; */
    private static void bestStartTheLowest() {
        IslandReserve x = new IslandReserve();
        for (int set = 0; set <= 3; set++) {
            x.rate(set, 180, 0, 20, 1);
        }
        for (int set = 0; set <= 2; set++) {
            Check.due("the lowest", x.bestStart(), set);
            x.lose(set);
        }
        Check.due("the last one", x.bestStart(), 3);
    }

    /** Doc, Promise 23: NONE if none stands, */
    private static void bestStartIsNoneIfNoneStands() {
        IslandReserve x = new IslandReserve();
        x.start(0);
        x.start(1);
        x.pass(1);
        x.start(2);
        x.lose(3);
        for (int hour = 0; hour <= 47; hour++) {
            x.forecast(hour, 1500);
        }
        Check.due("none stands", x.bestStart(), -1);
        x.lose(3);
        Check.due("one stands, but does not help", x.bestStart(), -1);
        x.forecast(40, 720);
        Check.due("one stands, and helps in one hour", x.bestStart(), 3);
    }

    /** Doc, Promise 23: or none makes the dark hours fewer. */
    private static void bestStartIsNoneIfNoneHelps() {
        IslandReserve y = new IslandReserve();
        y.set(0, 0);
        for (int hour = 0; hour < 48; hour++) {
            y.forecast(hour, 0);
        }
        Check.due("nothing is dark", y.bestStart(), -1);
        y.forecast(20, 201);
        Check.due("none makes it fewer", y.bestStart(), -1);
        y.forecast(20, 200);
        Check.due("all make it fewer", y.bestStart(), 0);
    }

    /** Doc, Promise 23: up to the end, */
    private static void bestStartUpToTheEnd() {
        IslandReserve y = new IslandReserve();
        for (int set = 0; set <= 3; set++) {
            y.rate(set, 300, 0, 30, 4 - set);
        }
        y.pass(44);
        Check.due("at 44, by hours", y.bestStart(), 3);
        y.lose(3);
        y.lose(2);
        y.lose(1);
        Check.due("warm in the hour 47", y.bestStart(), 0);
        y.pass(1);
        Check.due("warm too late", y.bestStart(), -1);
        y.lose(3);
        y.pass(2);
        Check.due("at 47, warm in it", y.bestStart(), 3);
        y.pass(1);
        Check.due("at 48", y.bestStart(), -1);
    }

    /** Doc, Promise 24: Returns how many hours had enough reserve. | Doc, Promise 24: Returns the
     * hours so far whose reserve was enough, as a double, divided by the hours so far; */
    private static void safeShareOfTheHoursSoFar() {
        IslandReserve x = new IslandReserve();
        x.pass(1);
        Check.dueShare("0 of 1", x.safeShare(), 0.0);
        x.start(0);
        x.start(1);
        x.pass(1);
        Check.dueShare("1 of 2", x.safeShare(), 0.5);
        x.pass(1);
        Check.dueShare("2 of 3", x.safeShare(), 2.0 / 3.0);
        x.undo();
        Check.dueShare("1 of 2, undone", x.safeShare(), 0.5);
        x.pass(46);
        Check.dueShare("47 of 48", x.safeShare(), 47.0 / 48.0);
        IslandReserve y = new IslandReserve();
        y.start(0);
        y.start(1);
        y.pass(48);
        Check.dueShare("48 of 48", y.safeShare(), 1.0);
        IslandReserve z = new IslandReserve();
        z.pass(48);
        Check.dueShare("0 of 48", z.safeShare(), 0.0);
    }

    /** Doc, Promise 24: 1.0 without these. */
    private static void safeShareWithoutHours() {
        IslandReserve x = new IslandReserve();
        Check.dueShare("no hours", x.safeShare(), 1.0);
        x.pass(1);
        x.undo();
        Check.dueShare("no hours again", x.safeShare(), 1.0);
    }
}
