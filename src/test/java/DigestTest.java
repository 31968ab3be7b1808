/** Promise 25: digest. Each value is asked of an island of its own, so that none is asked more than
 * 512 calls. */
final class DigestTest {
    private DigestTest() { }

    public static void main(String[] args) {
        digestOfANewIsland();
        digestBehindManyCalls();
        digestAtTheEnd();
        digestOfTheBuffer();
        digestOfEveryShare();
        digestOfTwoAlike();
        Check.end();
    }

    /** Doc, Promise 25: Computes a hash of the whole state. The hash starts at 3041. For each
     * value v of the following list, in order, the hash becomes 31 * hash + v, in long arithmetic
     * with overflow. */
    private static void digestOfANewIsland() {
        digestIs(Check.NEW, "new", "");
        // The number was reckoned from the document's values alone, by another program.
        Check.due("a new island's", new IslandReserve().digest(), 614674991415760512L);
    }

    /** Doc, Promise 25: The values are: count(0) to count(14); the settings 0 and 1; for each set
     * its properties 0 to 8, and ifLost; for each hour 0 to 47 its numbers 0 to 6; cheapest of the
     * hours 0, 20 and 47, each with 0 and 1; firstDark; ifShed; bestStart; */
    private static void digestBehindManyCalls() {
        Check.History history = x -> {
            x.rate(1, 350, 20, 7, 0);
            x.start(1);
            x.start(0);
            x.shed();
            x.forecast(0, 320);
            x.forecast(20, 1500);
            x.forecast(47, 10);
            x.pass(23);
        };
        digestIs(history, "hour 23", "");
        Check.History warming = x -> {
            history.play(x);
            x.rate(3, 90, 0, 11, 4);
            x.start(3);
            x.lose(2);
            x.set(1, 9);
            x.set(0, 33);
        };
        digestIs(warming, "one warms up, one is lost", "");
    }

    /** Doc, Promise 25: a hash of the whole state. */
    private static void digestAtTheEnd() {
        Check.History history = x -> {
            x.start(0);
            x.start(1);
            x.pass(48);
            x.shed();
        };
        digestIs(history, "hour 48", "");
    }

    /** Doc, Promise 25: the length of the buffer and each of its character codes. */
    private static void digestOfTheBuffer() {
        for (String text : new String[] {"", "!", "~", "h1", "1h", "s;".repeat(30)}) {
            digestIs(x -> Check.type(x, text), "buffer " + text, text);
        }
        Check.History cleared = x -> {
            Check.type(x, "h48");
            x.clearBuffer();
        };
        digestIs(cleared, "cleared", "");
        Check.History shorter = x -> {
            Check.type(x, "h48");
            Check.type(x, "s");
        };
        digestIs(shorter, "shorter", "s");
    }

    /** Doc, Promise 25: the bits of safeShare (as Double.doubleToLongBits); */
    private static void digestOfEveryShare() {
        for (int hours = 1; hours <= 48; hours++) {
            for (int safe = 0; safe <= hours; safe++) {
                shareIs(safe, hours);
            }
        }
    }

    private static void shareIs(int safe, int hours) {
        Check.History history = x -> {
            x.rate(0, 500, 0, 1, 0);
            x.rate(1, 500, 0, 1, 0);
            x.start(0);
            x.start(1);
            if (safe > 0) {
                x.pass(safe);
            }
            x.stop(0);
            if (hours > safe) {
                x.pass(hours - safe);
            }
        };
        double share = Check.after(history).safeShare();
        Check.dueShare("share " + safe + " of " + hours, share, (double) safe / (double) hours);
        digestIs(history, "share " + safe + " of " + hours, "");
    }

    /** Doc, Promise 25: Returns the hash. */
    private static void digestOfTwoAlike() {
        IslandReserve x = new IslandReserve();
        x.shed();
        x.shed();
        IslandReserve y = new IslandReserve();
        y.forecast(9, 100);
        y.set(1, 6);
        Check.due("two states that are alike", x.digest(), y.digest());
        Check.due("asked again", x.digest(), y.digest());
    }

    private static void digestIs(Check.History history, String when, String buffer) {
        IslandReserve asked = Check.after(history);
        Check.due("digest, " + when, asked.digest(), digestOf(Check.after(history), buffer));
    }

    /** The digest as the document tells it, of the answers of the island. */
    private static long digestOf(IslandReserve x, String buffer) {
        long hash = 3041;
        for (int what = 0; what <= 14; what++) {
            hash = 31 * hash + x.count(what);
        }
        hash = 31 * hash + x.setting(0);
        hash = 31 * hash + x.setting(1);
        for (int set = 0; set < 4; set++) {
            for (int what = 0; what <= 8; what++) {
                hash = 31 * hash + x.setOf(set, what);
            }
            hash = 31 * hash + x.ifLost(set);
        }
        for (int hour = 0; hour < 48; hour++) {
            for (int what = 0; what <= 6; what++) {
                hash = 31 * hash + x.hour(hour, what);
            }
        }
        for (int hour : new int[] {0, 20, 47}) {
            hash = 31 * hash + x.cheapest(hour, 0);
            hash = 31 * hash + x.cheapest(hour, 1);
        }
        hash = 31 * hash + x.firstDark();
        hash = 31 * hash + x.ifShed();
        hash = 31 * hash + x.bestStart();
        hash = 31 * hash + Double.doubleToLongBits(x.safeShare());
        hash = 31 * hash + buffer.length();
        for (int place = 0; place < buffer.length(); place++) {
            hash = 31 * hash + buffer.charAt(place);
        }
        return hash;
    }
}
