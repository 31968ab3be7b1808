/** Promises 19 to 25: ifLost, cheapest, firstDark, ifShed, bestStart, safeShare, digest. */
final class OutlookTest {
    private OutlookTest() { }

    public static void main(String[] args) {
        ifLostTells();
        ifLostRefuses();
        cheapestOfMasks();
        cheapestEdges();
        cheapestRefuses();
        firstDarkLooksAhead();
        ifShedTriesBoth();
        bestStartByDarkHours();
        bestStartByFuel();
        bestStartEdges();
        safeShareOfHours();
        digestAsTold();
        digestOfEveryShare();
        Check.end();
    }

    private static void ifLostTells() {
        IslandReserve x = new IslandReserve();
        x.rate(0, 150, 60, 10, 0);
        x.rate(1, 100, 60, 20, 0);
        x.start(0);
        x.start(1);
        x.start(2);
        x.lose(3);
        x.forecast(0, 170);
        Check.due("all as they are", x.count(4), 0);
        Check.due("ifLost(0)", x.ifLost(0), 150);
        Check.due("ifLost(1)", x.ifLost(1), 100);
        Check.due("ifLost of one that warms up", x.ifLost(2), 0);
        Check.due("ifLost of a lost one", x.ifLost(3), 0);
        x.forecast(0, 60);
        Check.due("just borne", x.ifLost(1), 0);
        x.shed();
        x.forecast(0, 10);
        Check.due("burned off", x.ifLost(0), 0);
        Check.due("it still runs", x.setOf(0, 4), 2);
    }

    private static void ifLostRefuses() {
        IslandReserve x = new IslandReserve();
        Check.illegal(x, "ifLost(-1)", () -> x.ifLost(-1));
        Check.illegal(x, "ifLost(4)", () -> x.ifLost(4));
    }

    private static void cheapestOfMasks() {
        IslandReserve x = new IslandReserve();
        cheapestIs(x, "new", 0, 3, 12 * 10 + 6 * 20);
        x.lose(0);
        cheapestIs(x, "without 0", 0, 6, 12 * 20 + 6 * 30);
        x.shed();
        cheapestIs(x, "shed", 0, 6, 6 * 20 + 6 * 30);
        x.forecast(5, 200);
        cheapestIs(x, "200", 5, 6, 14 * 20 + 6 * 30);
        x.forecast(5, 201);
        cheapestIs(x, "201", 5, 14, 81 * 2 + 6 * 30 + 6 * 40);
        x.forecast(5, 401);
        cheapestIs(x, "401", 5, -1, -1);
        x.forecast(5, 0);
        cheapestIs(x, "no load", 5, 0, 0);
        x.lose(0);
        x.forecast(5, 601);
        cheapestIs(x, "601", 5, -1, -1);
        x.forecast(5, 600);
        cheapestIs(x, "600", 5, 15, 200 + 200 * 2 + 140 * 3 + 60 * 4);
    }

    private static void cheapestEdges() {
        IslandReserve x = new IslandReserve();
        for (int set = 0; set < 4; set++) {
            x.rate(set, 100, 0, 10, 0);
        }
        cheapestIs(x, "of several the least mask", 0, 7, 180);
        x.set(0, 0);
        cheapestIs(x, "of several the least mask", 0, 3, 100);
        x.start(0);
        x.start(1);
        x.lose(1);
        cheapestIs(x, "what runs or stands may be used", 0, 5, 100);
        x.pass(1);
        cheapestIs(x, "an hour that has gone by", 0, 5, 100);
        IslandReserve y = new IslandReserve();
        y.rate(0, 500, 0, 50, 0);
        y.rate(1, 500, 401, 10, 0);
        y.rate(2, 400, 0, 20, 4);
        y.rate(3, 300, 0, 99, 4);
        y.forecast(9, 120);
        cheapestIs(y, "a great least load is dearer", 9, 5, 400);
        y.rate(2, 400, 0, 1, 4);
        y.rate(0, 500, 0, 2, 0);
        cheapestIs(y, "cheaper, the least mask", 9, 5, 20);
        y.rate(2, 180, 0, 1, 4);
        cheapestIs(y, "two would bear too little", 9, 13, 22);
    }

    private static void cheapestIs(IslandReserve x, String when, int hour, long mask, long fuel) {
        Check.due(when + ": cheapest(" + hour + ", 0)", x.cheapest(hour, 0), mask);
        Check.due(when + ": cheapest(" + hour + ", 1)", x.cheapest(hour, 1), fuel);
    }

    private static void cheapestRefuses() {
        IslandReserve x = new IslandReserve();
        Check.illegal(x, "cheapest(-1, 0)", () -> x.cheapest(-1, 0));
        Check.illegal(x, "cheapest(48, 0)", () -> x.cheapest(48, 0));
        Check.illegal(x, "cheapest(0, -1)", () -> x.cheapest(0, -1));
        Check.illegal(x, "cheapest(0, 2)", () -> x.cheapest(0, 2));
    }

    private static void firstDarkLooksAhead() {
        IslandReserve x = new IslandReserve();
        Check.due("nothing runs", x.firstDark(), 0);
        x.rate(0, 200, 60, 10, 2);
        x.start(0);
        Check.due("warms up for two hours", x.firstDark(), 0);
        x.pass(1);
        Check.due("runs in the next one", x.firstDark(), -1);
        x.forecast(0, 1000);
        Check.due("what has gone by is not asked", x.firstDark(), -1);
        x.forecast(47, 120);
        Check.due("just borne", x.firstDark(), -1);
        x.forecast(47, 121);
        Check.due("the last hour", x.firstDark(), 47);
        x.forecast(30, 121);
        Check.due("the first of two", x.firstDark(), 30);
        x.shed();
        Check.due("shed", x.firstDark(), -1);
        x.shed();
        x.pass(47);
        Check.due("the hour is 48", x.firstDark(), -1);
    }

    private static void ifShedTriesBoth() {
        IslandReserve x = new IslandReserve();
        x.rate(0, 200, 60, 10, 0);
        x.start(0);
        Check.due("no difference", x.ifShed(), 100);
        x.forecast(3, 121);
        x.forecast(4, 200);
        x.forecast(5, 201);
        Check.due("two fewer", x.ifShed(), 102);
        x.shed();
        Check.due("two more", x.ifShed(), 98);
        x.shed();
        x.pass(4);
        Check.due("one still", x.ifShed(), 101);
        x.pass(44);
        Check.due("at the end", x.ifShed(), 100);
        IslandReserve y = new IslandReserve();
        y.rate(0, 100, 0, 1, 0);
        y.start(0);
        Check.due("48 fewer", y.ifShed(), 148);
        y.shed();
        Check.due("48 more", y.ifShed(), 52);
    }

    private static void bestStartByDarkHours() {
        IslandReserve x = new IslandReserve();
        x.rate(0, 170, 0, 1, 0);
        x.rate(1, 200, 0, 99, 3);
        x.rate(2, 200, 0, 50, 4);
        x.rate(3, 180, 0, 98, 2);
        Check.due("the one that is warm first", x.bestStart(), 3);
        x.forecast(40, 110);
        x.forecast(41, 110);
        Check.due("the one that bears most hours", x.bestStart(), 1);
        x.lose(1);
        Check.due("a lost one is not started; of two the one of less fuel", x.bestStart(), 2);
        x.start(3);
        Check.due("two would help as much", x.bestStart(), 0);
        IslandReserve y = new IslandReserve();
        y.rate(2, 300, 0, 30, 4);
        y.pass(44);
        Check.due("warm up to 47", y.bestStart(), 0);
        y.lose(0);
        y.lose(1);
        y.lose(3);
        Check.due("warm in the hour 47", y.bestStart(), 2);
        y.pass(1);
        Check.due("too late", y.bestStart(), -1);
    }

    private static void bestStartByFuel() {
        IslandReserve x = new IslandReserve();
        x.rate(0, 180, 0, 30, 1);
        x.rate(1, 180, 0, 20, 1);
        x.rate(2, 180, 0, 20, 1);
        Check.due("the least fuel, the lowest", x.bestStart(), 1);
        x.rate(2, 180, 0, 19, 1);
        Check.due("the least fuel", x.bestStart(), 2);
        // The set 1 would use less itself, but leaves more to the dear set 0.
        IslandReserve y = new IslandReserve();
        y.rate(0, 150, 0, 50, 0);
        y.rate(1, 100, 0, 60, 0);
        y.rate(2, 150, 0, 40, 0);
        y.lose(3);
        y.start(0);
        Check.due("the least fuel of all sets", y.bestStart(), 2);
    }

    private static void bestStartEdges() {
        IslandReserve x = new IslandReserve();
        Check.due("new", x.bestStart(), 0);
        for (int set = 0; set < 4; set++) {
            x.start(set);
        }
        Check.due("none stands", x.bestStart(), -1);
        IslandReserve y = new IslandReserve();
        y.forecast(0, 0);
        y.set(0, 0);
        for (int hour = 1; hour < 48; hour++) {
            y.forecast(hour, 0);
        }
        Check.due("nothing is dark", y.bestStart(), -1);
        y.forecast(20, 201);
        Check.due("none makes it fewer", y.bestStart(), -1);
        y.forecast(20, 200);
        Check.due("all make it fewer", y.bestStart(), 0);
        y.pass(48);
        Check.due("at the end", y.bestStart(), -1);
    }

    private static void safeShareOfHours() {
        IslandReserve x = new IslandReserve();
        Check.dueShare("without hours", x.safeShare(), 1.0);
        x.pass(1);
        Check.dueShare("0 of 1", x.safeShare(), 0.0);
        x.start(0);
        x.start(1);
        x.pass(1);
        Check.dueShare("1 of 2", x.safeShare(), 0.5);
        x.pass(1);
        Check.dueShare("2 of 3", x.safeShare(), 2.0 / 3.0);
        x.pass(45);
        Check.dueShare("47 of 48", x.safeShare(), 47.0 / 48.0);
        IslandReserve y = new IslandReserve();
        y.start(0);
        y.start(1);
        y.pass(3);
        Check.dueShare("3 of 3", y.safeShare(), 1.0);
    }

    private static void digestAsTold() {
        IslandReserve x = new IslandReserve();
        Check.due("new", x.digest(), digestOf(x, new int[0]));
        x.rate(1, 350, 20, 7, 0);
        x.start(1);
        x.start(0);
        x.shed();
        x.forecast(0, 320);
        x.forecast(20, 1500);
        x.forecast(47, 10);
        x.pass(23);
        x.append('h');
        x.append('1');
        Check.due("hour 23", x.digest(), digestOf(x, new int[] {'h', '1'}));
        x.pass(25);
        Check.due("hour 48", x.digest(), digestOf(x, new int[] {'h', '1'}));
        x.clearBuffer();
        Check.due("empty", x.digest(), digestOf(x, new int[0]));
        // The number was reckoned from the document's values alone, by another program.
        Check.due("a new island's", new IslandReserve().digest(), 614674991415760512L);
    }

    private static void digestOfEveryShare() {
        IslandReserve none = new IslandReserve();
        none.pass(1);
        Check.due("digest of the share 0", none.digest(), digestOf(none, new int[0]));
        for (int hours = 1; hours <= 48; hours++) {
            IslandReserve x = new IslandReserve();
            x.rate(0, 500, 0, 1, 0);
            x.rate(1, 500, 0, 1, 0);
            x.start(0);
            x.start(1);
            x.pass(hours);
            for (int safe = hours; safe < 48; safe++) {
                Check.dueShare("share", x.safeShare(), (double) hours / (double) safe);
                Check.due("digest of a share", x.digest(), digestOf(x, new int[0]));
                if (safe == hours) {
                    x.stop(0);
                }
                x.pass(1);
            }
        }
    }

    /** The digest as the document tells it, of the answers of the object. */
    private static long digestOf(IslandReserve x, int[] buffer) {
        long hash = 3041;
        for (int what = 0; what <= 14; what++) {
            hash = 31 * hash + x.count(what);
        }
        hash = 31 * hash + x.setting(0);
        hash = 31 * hash + x.setting(1);
        for (int set = 0; set < 4; set++) {
            for (int what = 0; what <= 8; what++) {
                hash = 31 * hash + x.setOf(set, what);
            }
            hash = 31 * hash + x.ifLost(set);
        }
        for (int hour = 0; hour < 48; hour++) {
            for (int what = 0; what <= 6; what++) {
                hash = 31 * hash + x.hour(hour, what);
            }
        }
        for (int hour : new int[] {0, 20, 47}) {
            hash = 31 * hash + x.cheapest(hour, 0);
            hash = 31 * hash + x.cheapest(hour, 1);
        }
        hash = 31 * hash + x.firstDark();
        hash = 31 * hash + x.ifShed();
        hash = 31 * hash + x.bestStart();
        hash = 31 * hash + Double.doubleToLongBits(x.safeShare());
        hash = 31 * hash + buffer.length;
        for (int code : buffer) {
            hash = 31 * hash + code;
        }
        return hash;
    }
}
