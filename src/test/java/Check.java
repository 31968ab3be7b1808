/** What the tests of the project say and ask; a test ends with end(). */
final class Check {
    static final Class<?> ILLEGAL = IllegalArgumentException.class;
    static final Class<?> BAD_STATE = IllegalStateException.class;
    static final Class<?> OUT_OF_BOUNDS = IndexOutOfBoundsException.class;
    /** A new island. */
    static final History NEW = x -> { };

    private static int asked = 0;
    private static int wrong = 0;

    private Check() { }

    /** Calls that bring a new island into a state. */
    interface History {
        void play(IslandReserve x);
    }

    /** A call on an island. */
    interface Ask {
        long of(IslandReserve x);
    }

    /** A call on an island, of which one argument is looked at. */
    interface AskWith {
        long of(IslandReserve x, int argument);
    }

    static IslandReserve after(History history) {
        IslandReserve x = new IslandReserve();
        history.play(x);
        return x;
    }

    static void due(String what, long got, long want) {
        asked++;
        if (got != want) {
            wrong++;
            System.out.println(what + " answered " + got + ", due is " + want);
        }
    }

    static void dueText(String what, String got, String want) {
        asked++;
        if (!got.equals(want)) {
            wrong++;
            System.out.println(what + " gave " + got + ", due is " + want);
        }
    }

    static void dueShare(String what, double got, double want) {
        due(what, Double.doubleToLongBits(got), Double.doubleToLongBits(want));
    }

    /** The answer of a call as a text, or the name of what it throws. */
    static String outcome(IslandReserve x, Ask ask) {
        try {
            return Long.toString(ask.of(x));
        } catch (RuntimeException thrown) {
            return thrown.getClass().getSimpleName();
        }
    }

    /** The call throws an exception of this very class; a twin without the call goes on alike. */
    static void refused(History history, String what, Class<?> wanted, Ask ask) {
        IslandReserve x = after(history);
        dueText(what, outcome(x, ask), wanted.getSimpleName());
        sameFromHereOn(what, x, after(history));
    }

    /** The call throws nothing. */
    static void taken(History history, String what, Ask ask) {
        String got = outcome(after(history), ask);
        dueText(what + " threw", got.endsWith("Exception") ? got : "nothing", "nothing");
    }

    /** The call answers; a twin without the call goes on alike. */
    static void changesNothing(History history, String what, Ask ask) {
        IslandReserve x = after(history);
        String got = outcome(x, ask);
        dueText(what + " threw", got.endsWith("Exception") ? got : "nothing", "nothing");
        sameFromHereOn(what, x, after(history));
    }

    /** Two islands are alike in their state, their buffer and all their saved states. */
    private static void sameFromHereOn(String what, IslandReserve x, IslandReserve twin) {
        due(what + ": digest", x.digest(), twin.digest());
        for (int level = 1; level <= 7; level++) {
            dueText(what + ": undo " + level, outcome(x, IslandReserve::undo),
                    outcome(twin, IslandReserve::undo));
            due(what + ": digest after undo " + level, x.digest(), twin.digest());
        }
    }

    /** Taken at both bounds; refused just outside of them and far outside. */
    static void bounds(History history, String what, int least, int most, Class<?> wanted,
            AskWith ask) {
        for (int inside : new int[] {least, most}) {
            taken(history, what + ", the bound " + inside, x -> ask.of(x, inside));
        }
        int[] outsides = {least - 1, most + 1, Integer.MIN_VALUE, Integer.MAX_VALUE};
        for (int outside : outsides) {
            refused(history, what + ", outside " + outside, wanted, x -> ask.of(x, outside));
        }
    }

    /** The call saves one state; undo brings back all that was before, but the buffer. */
    static void undoable(History history, String what, Ask ask) {
        IslandReserve x = after(history);
        x.clearBuffer();
        IslandReserve y = after(history);
        long before = x.digest();
        int saved = x.count(14);
        ask.of(y);
        due(what + ": saved states", y.count(14), saved + 1L);
        due(what + ": undo", y.undo(), saved);
        y.clearBuffer();
        due(what + ": digest after undo", y.digest(), before);
    }

    /** Puts a text into the buffer, of which nothing is left. */
    static void type(IslandReserve x, String text) {
        x.clearBuffer();
        for (int place = 0; place < text.length(); place++) {
            x.append(text.charAt(place));
        }
    }

    /** The answers of count(from) and on, one behind the other. */
    static void counts(IslandReserve x, String when, int from, long... wanted) {
        for (int place = 0; place < wanted.length; place++) {
            due(when + ": count(" + (from + place) + ")", x.count(from + place), wanted[place]);
        }
    }

    /** The answers of setOf(set, from) and on, one behind the other. */
    static void properties(IslandReserve x, String when, int set, int from, long... wanted) {
        for (int place = 0; place < wanted.length; place++) {
            int what = from + place;
            due(when + ": setOf(" + set + ", " + what + ")", x.setOf(set, what), wanted[place]);
        }
    }

    /** The answers of setOf(0, what) to setOf(3, what). */
    static void ofEachSet(IslandReserve x, String when, int what, long... wanted) {
        for (int set = 0; set < wanted.length; set++) {
            due(when + ": setOf(" + set + ", " + what + ")", x.setOf(set, what), wanted[set]);
        }
    }

    /** The answers of hour(hour, 0) to hour(hour, 6). */
    static void hourIs(IslandReserve x, String when, int hour, long... wanted) {
        for (int what = 0; what < wanted.length; what++) {
            due(when + ": hour(" + hour + ", " + what + ")", x.hour(hour, what), wanted[what]);
        }
    }

    static void end() {
        System.out.println(asked + " answers asked, " + wrong + " wrong");
        if (wrong != 0) {
            System.exit(1);
        }
    }
}
