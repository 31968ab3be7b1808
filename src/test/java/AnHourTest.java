/** What the document tells under "An hour": what happens when an hour goes by. */
final class AnHourTest {
    private AnHourTest() { }

    public static void main(String[] args) {
        hourIsAtFirst0();
        warmingSetsHaveAnHourLess();
        setsWithNoneLeftRunInThisHour();
        onlyWarmingSetsGoOn();
        loadIsForecastAndStore();
        eachGetsItsLeastLoad();
        tooMuchIsBurnedOff();
        leastMeritFirst();
        ofSeveralTheLowestSet();
        eachUpToItsGreatestLoad();
        leftOnesByMerits();
        whatNoSetCanBearIsDark();
        darkHours();
        reserveOfTheHour();
        enoughIfNothingIsDark();
        enoughWithoutAnyOneOfTheSets();
        enoughOfTwoGreatest();
        enoughWithOneSet();
        enoughWithoutSets();
        enoughWhileBurningOff();
        eachSetUsesFuel();
        fuelIsRoundedForEachSetAndHour();
        onlyRunningSetsUseFuel();
        warmthChangesAndHourBecomesMore();
        noHourBehind47();
        Check.end();
    }

    /** Doc, An hour: The hour is at first 0. */
    private static void hourIsAtFirst0() {
        Check.due("the hour", new IslandReserve().count(0), 0);
    }

    /** Doc, An hour: When an hour goes by, the following happens: | Doc, An hour: 1. Sets that
     * warm up have an hour less left; those with none left run. */
    private static void warmingSetsHaveAnHourLess() {
        IslandReserve x = new IslandReserve();
        for (int set = 0; set <= 3; set++) {
            x.rate(set, 50, 0, 1, set + 1);
            x.start(set);
        }
        Check.ofEachSet(x, "no hour", 5, 1, 2, 3, 4);
        x.pass(1);
        Check.ofEachSet(x, "an hour", 5, 0, 1, 2, 3);
        Check.ofEachSet(x, "an hour", 4, 2, 1, 1, 1);
        x.pass(1);
        Check.ofEachSet(x, "two hours", 5, 0, 0, 1, 2);
        Check.ofEachSet(x, "two hours", 4, 2, 2, 1, 1);
        x.pass(2);
        Check.ofEachSet(x, "four hours", 5, 0, 0, 0, 0);
        Check.ofEachSet(x, "four hours", 4, 2, 2, 2, 2);
        x.pass(1);
        Check.ofEachSet(x, "five hours", 5, 0, 0, 0, 0);
        Check.ofEachSet(x, "five hours", 8, 5, 4, 3, 2);
    }

    /** Doc, An hour: those with none left run. */
    private static void setsWithNoneLeftRunInThisHour() {
        IslandReserve x = new IslandReserve();
        x.rate(1, 200, 60, 20, 2);
        x.start(1);
        x.pass(1);
        Check.hourIs(x, "it has an hour left", 0, 100, 180, 180, 0, 0, 0, 0);
        x.pass(1);
        Check.hourIs(x, "it has none left, and bears the load", 1, 100, 180, 0, 0, 20, 0, 2);
        Check.properties(x, "it used fuel", 1, 7, 360, 1);
    }

    /** Doc, An hour: Sets that warm up */
    private static void onlyWarmingSetsGoOn() {
        IslandReserve x = new IslandReserve();
        x.rate(3, 200, 60, 40, 4);
        x.start(1);
        x.lose(1);
        x.start(2);
        x.stop(2);
        x.start(3);
        x.pass(3);
        Check.ofEachSet(x, "one stands, one is lost, one was stopped", 4, 0, 3, 0, 1);
        Check.ofEachSet(x, "one stands, one is lost, one was stopped", 5, 0, 0, 0, 1);
        Check.ofEachSet(x, "one stands, one is lost, one was stopped", 8, 0, 0, 0, 0);
    }

    /** Doc, An hour: 2. The load of the hour is the forecast, and that of the store, if it is
     * not shed. */
    private static void loadIsForecastAndStore() {
        IslandReserve x = new IslandReserve();
        x.forecast(0, 0);
        x.forecast(1, 1500);
        x.forecast(2, 1500);
        x.forecast(3, 0);
        x.pass(1);
        Check.due("the store alone", x.hour(0, 1), 80);
        x.set(0, 300);
        x.pass(1);
        Check.due("the greatest load", x.hour(1, 1), 1800);
        Check.due("is dark", x.hour(1, 2), 1800);
        x.shed();
        x.pass(2);
        Check.due("the forecast alone", x.hour(2, 1), 1500);
        Check.due("no load", x.hour(3, 1), 0);
    }

    /** Doc, An hour: 3. The sets that run share it out: first each one gets its least load; */
    private static void eachGetsItsLeastLoad() {
        IslandReserve x = ofFour();
        loadsOf(x, 100, 10, 20, 30, 40);
        loadsOf(x, 101, 10, 21, 30, 40);
        x.stop(1);
        loadsOf(x, 80, 10, 0, 30, 40);
        x.lose(3);
        loadsOf(x, 40, 10, 0, 30, 0);
    }

    /** Doc, An hour: if these are more than the load together, they stay so, and what is too much
     * is burned off. */
    private static void tooMuchIsBurnedOff() {
        IslandReserve x = ofFour();
        loadsOf(x, 99, 10, 20, 30, 40);
        Check.counts(x, "one too much", 4, 0, 1);
        loadsOf(x, 100, 10, 20, 30, 40);
        Check.counts(x, "just as much", 4, 0, 0);
        loadsOf(x, 101, 10, 21, 30, 40);
        Check.counts(x, "one too little", 4, 0, 0);
        loadsOf(x, 0, 10, 20, 30, 40);
        Check.counts(x, "no load", 4, 0, 100);
        x.pass(1);
        Check.hourIs(x, "no load, and the hour has gone by", 0, 0, 0, 0, 100, 360, 1, 15);
    }

    /** Doc, An hour: Otherwise what is left is given by merits, the least merit first, */
    private static void leastMeritFirst() {
        IslandReserve x = new IslandReserve();
        for (int set = 0; set <= 3; set++) {
            x.rate(set, 50, 0, 9 - set, 0);
            x.start(set);
        }
        x.set(0, 0);
        loadsOf(x, 1, 0, 0, 0, 1);
        loadsOf(x, 51, 0, 0, 1, 50);
        loadsOf(x, 101, 0, 1, 50, 50);
        loadsOf(x, 151, 1, 50, 50, 50);
    }

    /** Doc, An hour: of several the lowest set, */
    private static void ofSeveralTheLowestSet() {
        IslandReserve x = new IslandReserve();
        for (int set = 0; set <= 3; set++) {
            x.rate(set, 50, 0, 99, 0);
        }
        for (int set = 3; set >= 0; set--) {
            x.start(set);
        }
        x.set(0, 0);
        loadsOf(x, 1, 1, 0, 0, 0);
        loadsOf(x, 51, 50, 1, 0, 0);
        loadsOf(x, 101, 50, 50, 1, 0);
        loadsOf(x, 151, 50, 50, 50, 1);
        x.stop(0);
        loadsOf(x, 60, 0, 50, 10, 0);
    }

    /** Doc, An hour: each up to its greatest load. */
    private static void eachUpToItsGreatestLoad() {
        IslandReserve x = ofFour();
        loadsOf(x, 189, 10, 109, 30, 40);
        loadsOf(x, 190, 10, 110, 30, 40);
        loadsOf(x, 191, 10, 110, 31, 40);
        loadsOf(x, 280, 10, 110, 120, 40);
        loadsOf(x, 281, 11, 110, 120, 40);
        loadsOf(x, 370, 100, 110, 120, 40);
        loadsOf(x, 371, 100, 110, 120, 41);
        loadsOf(x, 460, 100, 110, 120, 130);
        loadsOf(x, 461, 100, 110, 120, 130);
        IslandReserve y = new IslandReserve();
        y.rate(0, 50, 50, 1, 0);
        y.start(0);
        y.rate(1, 60, 0, 2, 0);
        y.start(1);
        y.set(0, 0);
        loadsOf(y, 51, 50, 1, 0, 0);
    }

    /** Doc, An hour: what is left is given by merits, */
    private static void leftOnesByMerits() {
        IslandReserve x = ofFour();
        x.stop(1);
        loadsOf(x, 150, 10, 0, 100, 40);
        x.stop(2);
        loadsOf(x, 150, 100, 0, 0, 50);
    }

    /** Doc, An hour: What no set can bear is dark. */
    private static void whatNoSetCanBearIsDark() {
        IslandReserve x = ofFour();
        loadsOf(x, 460, 100, 110, 120, 130);
        Check.counts(x, "just borne", 4, 0, 0);
        loadsOf(x, 461, 100, 110, 120, 130);
        Check.counts(x, "one too much", 4, 1, 0);
        loadsOf(x, 1500, 100, 110, 120, 130);
        Check.counts(x, "far too much", 4, 1040, 0);
        IslandReserve none = new IslandReserve();
        Check.due("without sets all is dark", none.count(4), 180);
        none.set(0, 0);
        none.forecast(0, 0);
        Check.due("but no load is not", none.count(4), 0);
    }

    /** Doc, An hour: 4. If some load is dark, the hour is a dark one. */
    private static void darkHours() {
        IslandReserve x = new IslandReserve();
        x.start(0);
        x.forecast(0, 120);
        x.forecast(1, 121);
        x.forecast(2, 120);
        Check.due("nothing is dark", x.pass(1), 0);
        Check.due("no dark hour", x.count(11), 0);
        Check.due("one kilowatt is dark", x.pass(1), 1);
        Check.due("a dark hour", x.count(11), 1);
        Check.due("nothing is dark again", x.pass(1), 0);
        Check.due("a dark hour still", x.count(11), 1);
    }

    /** Doc, An hour: The reserve of the hour is what all sets that run could bear more than they
     * do, together. */
    private static void reserveOfTheHour() {
        IslandReserve x = ofFour();
        loadsOf(x, 460, 100, 110, 120, 130);
        Check.due("all is borne by", x.count(6), 0);
        loadsOf(x, 459, 100, 110, 120, 129);
        Check.due("one is left", x.count(6), 1);
        loadsOf(x, 461, 100, 110, 120, 130);
        Check.due("something is dark", x.count(6), 0);
        loadsOf(x, 100, 10, 20, 30, 40);
        Check.due("the least loads alone", x.count(6), 360);
        loadsOf(x, 0, 10, 20, 30, 40);
        Check.due("while something is burned off", x.count(6), 360);
        x.lose(3);
        loadsOf(x, 200, 10, 110, 80, 0);
        Check.due("a lost set bears nothing", x.count(6), 130);
    }

    /** Doc, An hour: It is enough if nothing is dark, */
    private static void enoughIfNothingIsDark() {
        IslandReserve x = new IslandReserve();
        x.set(0, 0);
        x.forecast(0, 0);
        Check.counts(x, "nothing is dark", 4, 0, 0, 0, 1);
        x.forecast(0, 1);
        Check.counts(x, "one is dark, and there are no sets to lose", 4, 1, 0, 0, 0);
    }

    /** Doc, An hour: and if without any one of the sets that run the others could bear (with
     * their greatest loads) the load of the hour */
    private static void enoughWithoutAnyOneOfTheSets() {
        for (int greatest = 0; greatest <= 2; greatest++) {
            IslandReserve x = new IslandReserve();
            for (int set = 0; set <= 2; set++) {
                x.rate(set, set == greatest ? 300 : 100 + set, 0, 10 + set, 0);
                x.start(set);
            }
            x.set(0, 0);
            int others = 303 - 100 - greatest;
            x.forecast(0, others);
            Check.counts(x, "the others can bear just this", 4, 0, 0, 300, 1);
            x.forecast(0, others + 1);
            Check.counts(x, "the others bear one less", 4, 0, 0, 299, 0);
            x.pass(1);
            Check.due("the hour that has gone by", x.hour(0, 5), 0);
        }
    }

    /** Doc, An hour: without any one of the sets that run */
    private static void enoughOfTwoGreatest() {
        IslandReserve x = new IslandReserve();
        x.rate(0, 200, 0, 1, 0);
        x.rate(1, 200, 0, 2, 0);
        x.rate(2, 500, 0, 3, 1);
        x.start(0);
        x.start(1);
        x.start(2);
        x.set(0, 0);
        x.forecast(0, 200);
        Check.counts(x, "one set can bear it; a third warms up", 4, 0, 0, 200, 1);
        x.forecast(0, 201);
        Check.counts(x, "one set can not", 4, 0, 0, 199, 0);
    }

    /** Doc, An hour: the others could bear (with their greatest loads) the load of the hour */
    private static void enoughWithOneSet() {
        IslandReserve x = new IslandReserve();
        x.rate(0, 500, 0, 1, 0);
        x.start(0);
        x.set(0, 0);
        x.forecast(0, 0);
        Check.counts(x, "no load", 4, 0, 0, 500, 1);
        x.forecast(0, 1);
        Check.counts(x, "a load that no other could bear", 4, 0, 0, 499, 0);
    }

    /** Doc, An hour: (so also without sets that run, if the load is 0). */
    private static void enoughWithoutSets() {
        IslandReserve x = new IslandReserve();
        x.set(0, 1);
        x.forecast(0, 0);
        x.forecast(1, 0);
        x.pass(1);
        Check.hourIs(x, "a load of 1", 0, 0, 1, 1, 0, 0, 0, 0);
        x.set(0, 0);
        x.pass(1);
        Check.hourIs(x, "a load of 0", 1, 0, 0, 0, 0, 0, 1, 0);
        Check.due("one hour was not enough", x.count(12), 1);
        Check.due("one hour was dark", x.count(11), 1);
    }

    /** Doc, An hour: (with their greatest loads) */
    private static void enoughWhileBurningOff() {
        IslandReserve x = new IslandReserve();
        x.rate(0, 100, 100, 1, 0);
        x.rate(1, 100, 90, 1, 0);
        x.start(0);
        x.start(1);
        x.set(0, 0);
        x.forecast(0, 100);
        Check.counts(x, "the other bears 90, but could bear 100", 4, 0, 90, 10, 1);
        x.forecast(0, 101);
        Check.counts(x, "the other could not bear 101", 4, 0, 89, 10, 0);
    }

    /** Doc, An hour: 5. Each set uses fuel: its merit times its load */
    private static void eachSetUsesFuel() {
        IslandReserve x = ofFour();
        loadsOf(x, 400, 100, 110, 120, 70);
        x.pass(1);
        Check.ofEachSet(x, "fuel", 7, 300, 220, 240, 280);
        Check.due("together", x.count(13), 1040);
        loadsOf(x, 0, 10, 20, 30, 40);
        x.pass(1);
        Check.ofEachSet(x, "and fuel for what is burned off", 7, 330, 260, 300, 440);
    }

    /** Doc, An hour: divided by 10. */
    private static void fuelIsRoundedForEachSetAndHour() {
        IslandReserve x = new IslandReserve();
        x.rate(0, 50, 0, 3, 0);
        x.rate(1, 500, 13, 7, 0);
        x.start(0);
        x.start(1);
        x.set(0, 0);
        x.forecast(0, 72);
        x.pass(1);
        Check.due("3 * 50 / 10", x.setOf(0, 7), 15);
        Check.due("7 * 22 / 10", x.setOf(1, 7), 15);
        x.forecast(1, 26);
        x.pass(1);
        Check.due("and 3 * 13 / 10", x.setOf(0, 7), 18);
        Check.due("and 7 * 13 / 10", x.setOf(1, 7), 24);
        Check.due("together", x.count(13), 42);
    }

    /** Doc, An hour: Each set uses fuel: */
    private static void onlyRunningSetsUseFuel() {
        IslandReserve x = new IslandReserve();
        x.rate(1, 200, 60, 20, 2);
        x.start(0);
        x.start(1);
        x.lose(2);
        x.pass(1);
        Check.ofEachSet(x, "one runs, one warms up, one is lost, one stands", 7, 180, 0, 0, 0);
        x.stop(0);
        x.lose(1);
        x.pass(1);
        Check.ofEachSet(x, "none runs", 7, 180, 0, 0, 0);
    }

    /** Doc, An hour: 6. The store's warmth changes. The hour becomes 1 more. */
    private static void warmthChangesAndHourBecomesMore() {
        IslandReserve x = new IslandReserve();
        x.set(1, 0);
        x.shed();
        x.pass(1);
        Check.due("the hour", x.count(0), 1);
        Check.counts(x, "warmth", 8, 1, 1);
        x.shed();
        x.pass(1);
        Check.due("the hour", x.count(0), 2);
        Check.counts(x, "warmth", 8, 0, 1);
    }

    /** Doc, An hour: Behind the hour 47 no hour goes by. */
    private static void noHourBehind47() {
        Check.History hour47 = x -> x.pass(47);
        Check.History hour48 = x -> x.pass(48);
        Check.taken(hour47, "the hour 47 goes by", x -> x.pass(1));
        Check.refused(hour47, "no hour behind it", Check.BAD_STATE, x -> x.pass(2));
        Check.refused(hour48, "no hour behind 47", Check.BAD_STATE, x -> x.pass(1));
        IslandReserve x = Check.after(hour48);
        Check.due("the hour", x.count(0), 48);
        Check.due("the hour 47 has gone by", x.hour(47, 1), 180);
        Check.type(x, "h1");
        Check.due("nor does a plan let one go by", x.run(), 0);
        Check.due("the hour", x.count(0), 48);
    }

    /** Greatest loads 100 to 130, least ones 10 to 40, merits 30, 20, 20, 40; all run. */
    private static IslandReserve ofFour() {
        IslandReserve x = new IslandReserve();
        x.rate(0, 100, 10, 30, 0);
        x.rate(1, 110, 20, 20, 0);
        x.rate(2, 120, 30, 20, 0);
        x.rate(3, 130, 40, 40, 0);
        for (int set = 0; set < 4; set++) {
            x.start(set);
        }
        x.set(0, 0);
        return x;
    }

    /** Lets the hour of now have a load; asks how it would be shared out. */
    private static void loadsOf(IslandReserve x, int load, long... wanted) {
        x.forecast(x.count(0), load);
        Check.ofEachSet(x, "load " + load, 6, wanted);
    }
}
