/** What the tests of the project say and ask; a test ends with end(). */
final class Check {
    private static int asked = 0;
    private static int wrong = 0;

    private Check() { }

    /** A call whose answer, or whose exception, is asked for. */
    interface Call {
        long answer();
    }

    static void due(String what, long got, long want) {
        asked++;
        if (got != want) {
            wrong++;
            System.out.println(what + " answered " + got + ", due is " + want);
        }
    }

    static void dueShare(String what, double got, double want) {
        due(what, Double.doubleToLongBits(got), Double.doubleToLongBits(want));
    }

    /** The call throws an exception of this very class, and changes nothing. */
    static void refused(IslandReserve x, String what, Class<?> wanted, Call call) {
        long before = x.digest();
        String got = "nothing";
        try {
            call.answer();
        } catch (RuntimeException thrown) {
            got = thrown.getClass().getSimpleName();
        }
        asked++;
        if (!got.equals(wanted.getSimpleName())) {
            wrong++;
            System.out.println(what + " threw " + got + ", due is " + wanted.getSimpleName());
        }
        due(what + ", digest behind it", x.digest(), before);
    }

    static void illegal(IslandReserve x, String what, Call call) {
        refused(x, what, IllegalArgumentException.class, call);
    }

    static void badState(IslandReserve x, String what, Call call) {
        refused(x, what, IllegalStateException.class, call);
    }

    static void outOfBounds(IslandReserve x, String what, Call call) {
        refused(x, what, IndexOutOfBoundsException.class, call);
    }

    /** Puts a text into an empty buffer. */
    static void type(IslandReserve x, String text) {
        x.clearBuffer();
        for (int place = 0; place < text.length(); place++) {
            x.append(text.charAt(place));
        }
    }

    /** The answers of count(from) to count(to), one behind the other. */
    static void counts(IslandReserve x, String when, int from, long... wanted) {
        for (int place = 0; place < wanted.length; place++) {
            due(when + ": count(" + (from + place) + ")", x.count(from + place), wanted[place]);
        }
    }

    /** The answers of setOf(set, from) and on, one behind the other. */
    static void properties(IslandReserve x, String when, int set, int from, long... wanted) {
        for (int place = 0; place < wanted.length; place++) {
            int what = from + place;
            due(when + ": setOf(" + set + ", " + what + ")", x.setOf(set, what), wanted[place]);
        }
    }

    /** The answers of hour(hour, 0) to hour(hour, 6). */
    static void hourIs(IslandReserve x, String when, int hour, long... wanted) {
        for (int what = 0; what < wanted.length; what++) {
            due(when + ": hour(" + hour + ", " + what + ")", x.hour(hour, what), wanted[what]);
        }
    }

    static void end() {
        System.out.println(asked + " answers asked, " + wrong + " wrong");
        if (wrong != 0) {
            System.exit(1);
        }
    }
}
