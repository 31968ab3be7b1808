/** The remark ahead of the looks, and promises 15 to 18: setOf, hour, count, setting. */
final class LooksTest {
    /** Saved states are dropped; sets stand, warm up, run, and are lost; some text is typed. */
    private static final Check.History BUSY = x -> {
        x.rate(2, 300, 50, 7, 0);
        x.rate(1, 150, 10, 9, 4);
        x.start(2);
        x.shed();
        x.pass(5);
        x.start(1);
        x.lose(3);
        x.set(1, 3);
        Check.type(x, "h1;");
    };
    private static final Check.History AT_THE_END = x -> {
        BUSY.play(x);
        x.pass(43);
    };

    private LooksTest() { }

    public static void main(String[] args) {
        looksChangeNothing();
        hourOfNowIsTheNext();
        hourOfNowAt48IsTheHour47();
        setOfGreatest();
        setOfLeast();
        setOfMerit();
        setOfHoursToWarmUp();
        setOfState();
        setOfHoursLeft();
        setOfLoadOfNow();
        setOfFuelSoFar();
        setOfHoursItRan();
        setOfBounds();
        hourForecast();
        hourLoad();
        hourDark();
        hourBurnedOff();
        hourReserve();
        hourEnough();
        hourMask();
        hourIsNoneUntilItHasGoneBy();
        hourBounds();
        countHour();
        countRunningAndWarming();
        countLoadOfNow();
        countOfSharingNow();
        countWarmthAndSpoiled();
        countShed();
        countDarkHours();
        countHoursNotEnough();
        countFuel();
        countSavedStates();
        countBounds();
        settingTellsItsValue();
        settingBounds();
        Check.end();
    }

    /** Doc, Exceptions: Ahead of the calls `setOf`, `hour`, `count`, `setting` the interface says:
     * ---- looks; nothing is changed. */
    private static void looksChangeNothing() {
        for (Check.History history : new Check.History[] {Check.NEW, BUSY, AT_THE_END}) {
            for (int what = 0; what <= 14; what++) {
                int inner = what;
                Check.changesNothing(history, "count", x -> x.count(inner));
                if (what <= 8) {
                    Check.changesNothing(history, "setOf", x -> x.setOf(2, inner));
                }
                if (what <= 6) {
                    Check.changesNothing(history, "hour", x -> x.hour(4, inner));
                }
                if (what <= 1) {
                    Check.changesNothing(history, "setting", x -> x.setting(inner));
                }
            }
        }
    }

    /** Doc, Exceptions: The hour of now is the one that would go by next; */
    private static void hourOfNowIsTheNext() {
        IslandReserve x = ofLoadsByHour();
        x.rate(0, 500, 0, 1, 0);
        x.start(0);
        for (int hour = 0; hour <= 47; hour++) {
            Check.counts(x, "hour " + hour, 3, hour, 0, 0, 500 - hour);
            Check.due("hour " + hour + ": load of the set", x.setOf(0, 6), hour);
            Check.due("hour " + hour + ": ifLost", x.ifLost(0), hour);
            x.pass(1);
        }
    }

    /** Doc, Exceptions: if the hour is 48, it is the hour 47. */
    private static void hourOfNowAt48IsTheHour47() {
        IslandReserve x = ofLoadsByHour();
        x.forecast(46, 46);
        x.forecast(47, 470);
        x.start(3);
        x.set(0, 80);
        x.pass(47);
        Check.counts(x, "hour 47", 0, 47, 1, 0, 550, 350, 0, 0, 0);
        x.pass(1);
        Check.counts(x, "hour 48", 0, 48, 1, 0, 550, 350, 0, 0, 0);
        Check.due("load of a set", x.setOf(3, 6), 200);
        Check.due("ifLost", x.ifLost(3), 550);
        x.shed();
        Check.counts(x, "hour 48, shed", 3, 470, 270);
        x.forecast(47, 3);
        Check.counts(x, "hour 48, another forecast", 3, 3, 0, 57, 140);
        Check.due("what has been stays", x.hour(47, 1), 550);
    }

    /** Each hour has its number as its load. */
    private static IslandReserve ofLoadsByHour() {
        IslandReserve x = new IslandReserve();
        x.set(0, 0);
        for (int hour = 0; hour <= 47; hour++) {
            x.forecast(hour, hour);
        }
        return x;
    }

    /** Doc, Promise 15: Returns a property of a set. | Doc, Promise 15: `set`: 0 to 3 |
     * Doc, Promise 15: `what`: 0: its greatest load; | Doc, Promise 15: Returns the property. */
    private static void setOfGreatest() {
        Check.ofEachSet(Check.after(BUSY), "greatest", 0, 200, 150, 300, 200);
    }

    /** Doc, Promise 15: 1: its least load; */
    private static void setOfLeast() {
        Check.ofEachSet(Check.after(BUSY), "least", 1, 60, 10, 50, 60);
    }

    /** Doc, Promise 15: 2: its merit; */
    private static void setOfMerit() {
        Check.ofEachSet(Check.after(BUSY), "merit", 2, 10, 9, 7, 40);
    }

    /** Doc, Promise 15: 3: its hours to warm up; */
    private static void setOfHoursToWarmUp() {
        Check.ofEachSet(Check.after(BUSY), "hours to warm up", 3, 1, 4, 0, 1);
        IslandReserve x = Check.after(BUSY);
        x.pass(2);
        Check.ofEachSet(x, "also when fewer are left", 3, 1, 4, 0, 1);
    }

    /** Doc, Promise 15: 4: 0 if it stands, 1 if it warms up, 2 if it runs, 3 if it is lost; */
    private static void setOfState() {
        Check.ofEachSet(Check.after(BUSY), "state", 4, 0, 1, 2, 3);
    }

    /** Doc, Promise 15: 5: the hours left, 0 if it does not warm up; */
    private static void setOfHoursLeft() {
        IslandReserve x = Check.after(BUSY);
        Check.ofEachSet(x, "hours left", 5, 0, 4, 0, 0);
        x.pass(3);
        Check.ofEachSet(x, "an hour left", 5, 0, 1, 0, 0);
        IslandReserve y = Check.after(BUSY);
        y.stop(1);
        Check.due("of one that was stopped", y.setOf(1, 5), 0);
        IslandReserve z = Check.after(BUSY);
        z.lose(1);
        Check.due("of one that was lost", z.setOf(1, 5), 0);
        x.pass(1);
        Check.due("of one that runs", x.setOf(1, 5), 0);
    }

    /** Doc, Promise 15: 6: the load that it would have, if the hour of now was shared out by the
     * sets that run now; */
    private static void setOfLoadOfNow() {
        IslandReserve x = Check.after(BUSY);
        Check.ofEachSet(x, "one that warms up bears nothing", 6, 0, 0, 100, 0);
        x.forecast(5, 300);
        Check.ofEachSet(x, "the greatest", 6, 0, 0, 300, 0);
        x.forecast(5, 301);
        Check.ofEachSet(x, "no more", 6, 0, 0, 300, 0);
        x.forecast(5, 0);
        Check.ofEachSet(x, "the least", 6, 0, 0, 50, 0);
        IslandReserve y = new IslandReserve();
        y.start(0);
        Check.due("it runs in the hour of now, but not now", y.setOf(0, 6), 0);
    }

    /** Doc, Promise 15: 7: the fuel that it used so far; */
    private static void setOfFuelSoFar() {
        IslandReserve x = Check.after(BUSY);
        Check.ofEachSet(x, "five hours of 100", 7, 0, 0, 5 * 70, 0);
        x.pass(4);
        Check.ofEachSet(x, "four more; one ran for the last", 7, 0, 9, 350 + 3 * 70 + 63, 0);
        x.stop(2);
        x.lose(1);
        x.pass(1);
        Check.ofEachSet(x, "it stays", 7, 0, 9, 623, 0);
    }

    /** Doc, Promise 15: 8: the hours in which it ran so far */
    private static void setOfHoursItRan() {
        IslandReserve x = Check.after(BUSY);
        Check.ofEachSet(x, "five hours", 8, 0, 0, 5, 0);
        x.pass(4);
        Check.ofEachSet(x, "four more; one ran for the last", 8, 0, 1, 9, 0);
        x.forecast(9, 0);
        x.pass(1);
        Check.ofEachSet(x, "also without a load", 8, 0, 2, 10, 0);
        x.stop(2);
        x.lose(1);
        x.pass(1);
        Check.ofEachSet(x, "it stays", 8, 0, 2, 10, 0);
    }

    /** Doc, Promise 15: Throws `IllegalArgumentException` if an argument is out of range */
    private static void setOfBounds() {
        for (Check.History history : new Check.History[] {Check.NEW, BUSY, AT_THE_END}) {
            Check.bounds(history, "setOf(set, 8)", 0, 3, Check.ILLEGAL,
                    (x, set) -> x.setOf(set, 8));
            Check.bounds(history, "setOf(3, what)", 0, 8, Check.ILLEGAL, (x, w) -> x.setOf(3, w));
            Check.refused(history, "setOf(4, 9)", Check.ILLEGAL, x -> x.setOf(4, 9));
        }
    }

    /** Doc, Promise 16: Returns something of an hour. | Doc, Promise 16: `what`: 0: the forecast;
     * | Doc, Promise 16: Returns the number; */
    private static void hourForecast() {
        IslandReserve x = new IslandReserve();
        x.forecast(0, 5);
        x.forecast(9, 6);
        x.pass(1);
        Check.due("of an hour that has gone by", x.hour(0, 0), 5);
        Check.due("of a later one", x.hour(9, 0), 6);
        x.forecast(0, 7);
        Check.due("changed afterwards", x.hour(0, 0), 7);
    }

    /** Doc, Promise 16: 1: the load, with the store, if it was not shed; */
    private static void hourLoad() {
        IslandReserve x = new IslandReserve();
        x.pass(1);
        x.shed();
        x.pass(1);
        x.shed();
        x.set(0, 5);
        x.pass(1);
        x.forecast(0, 9);
        Check.due("not shed", x.hour(0, 1), 180);
        Check.due("shed", x.hour(1, 1), 100);
        Check.due("not shed, another store", x.hour(2, 1), 105);
    }

    /** Doc, Promise 16: 2: what was dark; */
    private static void hourDark() {
        IslandReserve x = ofLoads(120, 121, 1500);
        Check.due("just borne", x.hour(1, 2), 0);
        Check.due("one is dark", x.hour(2, 2), 1);
        Check.due("nearly all is", x.hour(3, 2), 1380);
    }

    /** Doc, Promise 16: 3: what was burned off; */
    private static void hourBurnedOff() {
        IslandReserve y = new IslandReserve();
        y.shed();
        y.start(0);
        y.forecast(0, 61);
        y.forecast(1, 60);
        y.forecast(2, 59);
        y.forecast(3, 0);
        y.pass(4);
        Check.due("61", y.hour(0, 3), 0);
        Check.due("60", y.hour(1, 3), 0);
        Check.due("59", y.hour(2, 3), 1);
        Check.due("0", y.hour(3, 3), 60);
    }

    /** Doc, Promise 16: 4: the reserve; */
    private static void hourReserve() {
        IslandReserve x = ofLoads(119, 120, 121);
        Check.due("one is left", x.hour(1, 4), 1);
        Check.due("none is left", x.hour(2, 4), 0);
        Check.due("none either", x.hour(3, 4), 0);
    }

    /** Doc, Promise 16: 5: 1 if the reserve was enough, otherwise 0; */
    private static void hourEnough() {
        IslandReserve x = new IslandReserve();
        x.start(0);
        x.start(1);
        x.forecast(0, 120);
        x.forecast(1, 121);
        x.pass(2);
        Check.due("200 of two", x.hour(0, 5), 1);
        Check.due("201 of two", x.hour(1, 5), 0);
    }

    /** Doc, Promise 16: 6: the sets that ran, as a mask */
    private static void hourMask() {
        for (int mask = 0; mask <= 15; mask++) {
            IslandReserve x = new IslandReserve();
            for (int set = 0; set <= 3; set++) {
                if ((mask >> set & 1) == 1) {
                    x.start(set);
                }
            }
            x.pass(1);
            Check.due("mask", x.hour(0, 6), mask);
        }
    }

    /** An island of the set 0 alone; the hours from 1 on, with such forecasts, have gone by. */
    private static IslandReserve ofLoads(int... loads) {
        IslandReserve x = new IslandReserve();
        x.start(0);
        for (int place = 0; place < loads.length; place++) {
            x.forecast(place + 1, loads[place]);
        }
        x.pass(1 + loads.length);
        return x;
    }

    /** Doc, Promise 16: NONE for 1 to 6 if it has not gone by. */
    private static void hourIsNoneUntilItHasGoneBy() {
        for (int hours = 1; hours <= 48; hours++) {
            IslandReserve x = new IslandReserve();
            x.pass(hours);
            Check.hourIs(x, "the last that has gone by", hours - 1, 100, 180, 180, 0, 0, 0, 0);
            if (hours < 48) {
                Check.hourIs(x, "the next", hours, 100, -1, -1, -1, -1, -1, -1);
                Check.hourIs(x, "the last of all", 47, 100, -1, -1, -1, -1, -1, -1);
            }
            x.undo();
            Check.hourIs(x, "undone", 0, 100, -1, -1, -1, -1, -1, -1);
            Check.hourIs(x, "undone", hours - 1, 100, -1, -1, -1, -1, -1, -1);
        }
    }

    /** Doc, Promise 16: `hour`: 0 to 47 | Doc, Promise 16: Throws `IllegalArgumentException` if an
     * argument is out of range */
    private static void hourBounds() {
        for (Check.History history : new Check.History[] {Check.NEW, BUSY, AT_THE_END}) {
            Check.bounds(history, "hour(hour, 6)", 0, 47, Check.ILLEGAL, (x, h) -> x.hour(h, 6));
            Check.bounds(history, "hour(47, what)", 0, 6, Check.ILLEGAL, (x, w) -> x.hour(47, w));
            Check.bounds(history, "hour(0, what)", 0, 6, Check.ILLEGAL, (x, w) -> x.hour(0, w));
            Check.refused(history, "hour(48, 7)", Check.ILLEGAL, x -> x.hour(48, 7));
        }
    }

    /** Doc, Promise 17: Returns a number. | Doc, Promise 17: `what`: 0: the hour; |
     * Doc, Promise 17: Returns the number. */
    private static void countHour() {
        IslandReserve x = new IslandReserve();
        for (int hour = 0; hour <= 47; hour++) {
            Check.due("the hour", x.count(0), hour);
            x.pass(1);
        }
        Check.due("the hour", x.count(0), 48);
    }

    /** Doc, Promise 17: 1: sets that run; 2: sets that warm up; */
    private static void countRunningAndWarming() {
        IslandReserve x = new IslandReserve();
        Check.counts(x, "none", 1, 0, 0);
        for (int set = 0; set <= 3; set++) {
            x.rate(set, 200, 60, 10, set < 2 ? 1 : 2);
            x.start(set);
            Check.counts(x, "started", 1, 0, set + 1);
        }
        x.pass(1);
        Check.counts(x, "two and two", 1, 2, 2);
        x.lose(0);
        x.stop(2);
        Check.counts(x, "one and one", 1, 1, 1);
        x.lose(0);
        Check.counts(x, "a mended one stands", 1, 1, 1);
        x.start(0);
        x.start(2);
        x.pass(2);
        Check.counts(x, "four", 1, 4, 0);
    }

    /** Doc, Promise 17: 3: the load of the hour of now; */
    private static void countLoadOfNow() {
        IslandReserve x = new IslandReserve();
        x.forecast(0, 0);
        x.forecast(1, 1500);
        Check.due("the store alone", x.count(3), 80);
        x.set(0, 300);
        x.pass(1);
        Check.due("the greatest", x.count(3), 1800);
        x.shed();
        Check.due("shed", x.count(3), 1500);
    }

    /** Doc, Promise 17: 4 to 7: what would be dark of it, what would be burned off, the reserve,
     * and 1 if this was enough, otherwise 0, if it was shared out by the sets that run now; */
    private static void countOfSharingNow() {
        IslandReserve x = new IslandReserve();
        x.rate(0, 200, 60, 10, 0);
        x.rate(1, 150, 50, 10, 0);
        x.start(0);
        x.start(1);
        x.start(2);
        x.set(0, 0);
        sharedNow(x, 0, 0, 110, 240, 1);
        sharedNow(x, 109, 0, 1, 240, 1);
        sharedNow(x, 110, 0, 0, 240, 1);
        sharedNow(x, 111, 0, 0, 239, 1);
        sharedNow(x, 150, 0, 0, 200, 1);
        sharedNow(x, 151, 0, 0, 199, 0);
        sharedNow(x, 350, 0, 0, 0, 0);
        sharedNow(x, 351, 1, 0, 0, 0);
        sharedNow(x, 1500, 1150, 0, 0, 0);
        x.lose(0);
        sharedNow(x, 150, 0, 0, 0, 0);
        x.stop(1);
        sharedNow(x, 1, 1, 0, 0, 0);
        sharedNow(x, 0, 0, 0, 0, 1);
    }

    private static void sharedNow(IslandReserve x, int load, long... wanted) {
        x.forecast(0, load);
        Check.counts(x, "load " + load, 4, wanted);
    }

    /** Doc, Promise 17: 8: the warmth; 9: 1 if the store is spoiled, otherwise 0; */
    private static void countWarmthAndSpoiled() {
        IslandReserve x = new IslandReserve();
        x.set(1, 2);
        Check.counts(x, "cold", 8, 0, 0);
        x.shed();
        x.pass(2);
        Check.counts(x, "warm", 8, 2, 0);
        x.pass(1);
        Check.counts(x, "spoiled", 8, 3, 1);
        x.undo();
        Check.counts(x, "undone", 8, 2, 0);
    }

    /** Doc, Promise 17: 10: 1 if it is shed, otherwise 0; */
    private static void countShed() {
        IslandReserve x = new IslandReserve();
        Check.due("at first", x.count(10), 0);
        x.shed();
        Check.due("shed", x.count(10), 1);
        x.shed();
        Check.due("taken", x.count(10), 0);
    }

    /** Doc, Promise 17: 11: dark hours so far; */
    private static void countDarkHours() {
        IslandReserve x = new IslandReserve();
        Check.due("at first", x.count(11), 0);
        x.start(0);
        x.forecast(1, 121);
        x.pass(1);
        Check.due("none", x.count(11), 0);
        x.pass(2);
        Check.due("one", x.count(11), 1);
        x.stop(0);
        x.pass(45);
        Check.due("46", x.count(11), 46);
        x.forecast(0, 1500);
        Check.due("what has been stays", x.count(11), 46);
    }

    /** Doc, Promise 17: 12: hours so far whose reserve was not enough; */
    private static void countHoursNotEnough() {
        IslandReserve x = new IslandReserve();
        Check.due("at first", x.count(12), 0);
        x.start(0);
        x.pass(1);
        Check.due("one set is not enough, though nothing is dark", x.count(12), 1);
        x.start(1);
        x.pass(1);
        Check.due("two are", x.count(12), 1);
        x.stop(0);
        x.pass(46);
        Check.due("all but one", x.count(12), 47);
        Check.due("none was dark", x.count(11), 0);
    }

    /** Doc, Promise 17: 13: the fuel used so far; */
    private static void countFuel() {
        IslandReserve x = new IslandReserve();
        Check.due("at first", x.count(13), 0);
        x.start(0);
        x.start(3);
        x.pass(1);
        Check.due("an hour", x.count(13), 120 + 240);
        x.lose(3);
        Check.due("a lost set's is counted", x.count(13), 360);
        x.pass(1);
        Check.due("two hours", x.count(13), 360 + 180);
        IslandReserve most = new IslandReserve();
        for (int set = 0; set <= 3; set++) {
            most.rate(set, 500, 500, 99, 0);
            most.start(set);
        }
        most.pass(48);
        Check.due("the most", most.count(13), 48 * 4 * 4950);
    }

    /** Doc, Promise 17: 14: saved states */
    private static void countSavedStates() {
        IslandReserve x = new IslandReserve();
        for (int calls = 0; calls <= 8; calls++) {
            Check.due("saved states", x.count(14), Math.min(calls, 6));
            x.shed();
        }
        x.undo();
        Check.due("one less", x.count(14), 5);
    }

    /** Doc, Promise 17: Throws `IllegalArgumentException` if what is not 0 to 14 */
    private static void countBounds() {
        for (Check.History history : new Check.History[] {Check.NEW, BUSY, AT_THE_END}) {
            Check.bounds(history, "count(what)", 0, 14, Check.ILLEGAL, (x, what) -> x.count(what));
        }
    }

    /** Doc, Promise 18: Returns a setting. | Doc, Promise 18: Returns its value. */
    private static void settingTellsItsValue() {
        IslandReserve x = new IslandReserve();
        x.set(0, 300);
        x.set(1, 48);
        Check.due("setting(0)", x.setting(0), 300);
        Check.due("setting(1)", x.setting(1), 48);
        x.set(0, 0);
        x.set(1, 1);
        Check.due("setting(0)", x.setting(0), 0);
        Check.due("setting(1)", x.setting(1), 1);
        x.undo();
        Check.due("setting(1), undone", x.setting(1), 48);
    }

    /** Doc, Promise 18: `setting`: 0 or 1 | Doc, Promise 18: Throws `IndexOutOfBoundsException` if
     * there is no such setting */
    private static void settingBounds() {
        for (Check.History history : new Check.History[] {Check.NEW, BUSY, AT_THE_END}) {
            Check.bounds(history, "setting(setting)", 0, 1, Check.OUT_OF_BOUNDS,
                    (x, setting) -> x.setting(setting));
        }
    }
}
