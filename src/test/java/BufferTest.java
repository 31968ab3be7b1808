import java.util.regex.Matcher;

/** Promises 10 to 14: append, clearBuffer, firstError, run, undo. */
final class BufferTest {
    private BufferTest() { }

    public static void main(String[] args) {
        appendAndClear();
        appendRefuses();
        errorsByPlace();
        errorsOfEveryShortText();
        errorsOfLongTexts();
        runDoesOrders();
        runStopsAtTheFirstRefused();
        runIsUndoneAsOne();
        runRefuses();
        undoRestores();
        undoForgetsTheOldest();
        undoRefuses();
        Check.end();
    }

    private static void appendAndClear() {
        IslandReserve x = new IslandReserve();
        Check.due("append(33)", x.append(33), 1);
        Check.due("append(126)", x.append(126), 2);
        Check.due("the state is not saved", x.count(14), 0);
        Check.due("clearBuffer", x.clearBuffer(), 2);
        Check.due("clearBuffer of none", x.clearBuffer(), 0);
        Check.due("append behind it", x.append('s'), 1);
        Check.due("the state is not saved", x.count(14), 0);
        IslandReserve y = new IslandReserve();
        y.append('s');
        long one = y.digest();
        y.clearBuffer();
        y.append('h');
        Check.due("the digest tells the characters", y.digest() - one, 'h' - 's');
    }

    private static void appendRefuses() {
        IslandReserve x = new IslandReserve();
        Check.illegal(x, "append(32)", () -> x.append(32));
        Check.illegal(x, "append(127)", () -> x.append(127));
        Check.illegal(x, "append(-1)", () -> x.append(-1));
        Check.illegal(x, "append(least int)", () -> x.append(Integer.MIN_VALUE));
        for (int length = 1; length <= 60; length++) {
            Check.due("append", x.append(length % 2 == 1 ? 's' : ';'), length);
        }
        Check.badState(x, "append to 60", () -> x.append('s'));
        Check.illegal(x, "append to 60, both wrong", () -> x.append(32));
        Check.due("no error in 60", x.firstError(), 60);
        Check.illegal(x, "run of 60, not whole", () -> x.run());
        Check.due("clearBuffer", x.clearBuffer(), 60);
    }

    private static void errorsByPlace() {
        error("", 0);
        error("+0;-3;s;h48;f47=1500", 20);
        error("+4", 1);
        error("+00", 2);
        error("-;", 1);
        error("s1", 1);
        error(";s", 0);
        error("s;;s", 2);
        error("h0", 1);
        error("h48", 3);
        error("h49", 2);
        error("h5", 2);
        error("h50", 2);
        error("h1;", 3);
        error("h100", 3);
        error("f47=", 4);
        error("f48=", 2);
        error("f=", 1);
        error("f00", 2);
        error("f01=", 2);
        error("f0=00", 4);
        error("f0=1500", 7);
        error("f0=1501", 6);
        error("f0=1510", 6);
        error("f0=1499", 7);
        error("f0=2000", 6);
        error("f0=999", 6);
        error("f0=;", 3);
        error("f0;", 2);
        error("f0==", 3);
        error("h1=", 2);
        error("S", 0);
        error("s,s", 1);
        error("~~", 0);
    }

    private static void error(String text, int wanted) {
        IslandReserve x = new IslandReserve();
        Check.type(x, text);
        Check.due("firstError of " + text, x.firstError(), wanted);
        Check.due("the buffer stays", x.clearBuffer(), text.length());
    }

    /** Against a regular expression that can tell whether more could have helped. */
    private static void errorsOfEveryShortText() {
        String signs = "+-shf=;0123459";
        String[] starts = {"", "f4", "f0=", "f0=1", "f0=15", "f0=150", "h", "s;f3", "f9=9"};
        IslandReserve x = new IslandReserve();
        for (String start : starts) {
            for (int number = 0; number < 14 * 14 * 14; number++) {
                StringBuilder text = new StringBuilder(start);
                text.append(signs.charAt(number % 14)).append(signs.charAt(number / 14 % 14));
                text.append(signs.charAt(number / 196));
                if (number % 400 == 0) {
                    x = new IslandReserve();
                }
                compareWithPattern(x, text.toString());
            }
        }
    }

    private static void compareWithPattern(IslandReserve x, String text) {
        Check.type(x, text);
        int wanted = 0;
        while (wanted < text.length() && mayBegin(text.substring(0, wanted + 1))) {
            wanted++;
        }
        Check.due("firstError of " + text, x.firstError(), wanted);
        boolean isPlan = Model.PLAN.matcher(text).matches();
        try {
            x.run();
            Check.due("run takes " + text, 1, isPlan ? 1 : 0);
        } catch (IllegalArgumentException refused) {
            Check.due("run takes " + text, 0, isPlan ? 1 : 0);
        }
        Check.due("what run leaves of " + text, x.clearBuffer(), isPlan ? 0 : text.length());
    }

    private static boolean mayBegin(String text) {
        Matcher matcher = Model.PLAN.matcher(text);
        return matcher.matches() || matcher.hitEnd();
    }

    private static void errorsOfLongTexts() {
        String orders = "s;".repeat(29);
        IslandReserve x = new IslandReserve();
        Check.type(x, orders + "h1");
        Check.due("60 characters", x.firstError(), 60);
        Check.due("30 orders", x.run(), 30);
        Check.counts(x, "30 orders", 8, 1, 0, 1);
        Check.type(x, orders + "f4");
        Check.due("a plan of any length", x.firstError(), 60);
        Check.illegal(x, "not whole", () -> x.run());
        x.clearBuffer();
        Check.type(x, orders + "f5");
        Check.due("a plan of any length", x.firstError(), 60);
        x.clearBuffer();
        Check.type(x, orders + "+5");
        Check.due("an error at the end", x.firstError(), 59);
    }

    private static void runDoesOrders() {
        IslandReserve x = new IslandReserve();
        Check.type(x, "+0;+3;f12=1500;f3=0;s;h13;-3;s");
        Check.due("run", x.run(), 8);
        Check.due("the buffer is clear", x.clearBuffer(), 0);
        Check.properties(x, "run", 0, 4, 2);
        Check.properties(x, "run", 3, 4, 0, 0, 0);
        Check.hourIs(x, "run", 12, 1500, 1500, 1100, 0, 0, 0, 9);
        Check.hourIs(x, "run", 3, 0, 0, 0, 120, 280, 1, 9);
        Check.counts(x, "run", 8, 13, 1, 0, 1);
        Check.due("as one call", x.count(14), 1);
        IslandReserve y = new IslandReserve();
        y.rate(2, 50, 50, 1, 0);
        Check.type(y, "+2;-2;+2;h9");
        Check.due("run", y.run(), 4);
        Check.properties(y, "at once", 2, 4, 2, 0, 50, 45, 9);
    }

    private static void runStopsAtTheFirstRefused() {
        stopsAt("+0;+0;s", 1);
        stopsAt("-0;s", 0);
        stopsAt("+3;-3;-3;s", 2);
        stopsAt("h48;h1;s", 1);
        stopsAt("h47;h2;s", 1);
        stopsAt("h47;h1;f0=3", 3);
        stopsAt("+2;s", 0);
        stopsAt("-2;s", 0);
        stopsAt("+1;h1;+1;s", 2);
    }

    private static void stopsAt(String text, int wanted) {
        IslandReserve x = new IslandReserve();
        x.lose(2);
        Check.type(x, text);
        Check.due("run of " + text, x.run(), wanted);
        Check.due("not shed by " + text, x.count(10), 0);
        Check.due("the buffer behind " + text, x.clearBuffer(), 0);
        Check.due("saved states behind " + text, x.count(14), 2);
    }

    private static void runIsUndoneAsOne() {
        IslandReserve x = new IslandReserve();
        long before = x.digest();
        Check.type(x, "+0;h3;s;f5=7;h40");
        x.run();
        x.append('f');
        Check.due("undo", x.undo(), 0);
        Check.due("the buffer is not restored", x.clearBuffer(), 1);
        Check.due("all else is", x.digest(), before);
    }

    private static void runRefuses() {
        IslandReserve x = new IslandReserve();
        Check.illegal(x, "run of nothing", () -> x.run());
        String[] texts = {"+", "s;", "h", "f1", "f1=", "x", "s;x", "h49", "+0;s;-"};
        for (String text : texts) {
            Check.type(x, text);
            Check.illegal(x, "run of " + text, () -> x.run());
            Check.due("the buffer stays", x.clearBuffer(), text.length());
        }
        Check.due("no state is saved", x.count(14), 0);
    }

    private static void undoRestores() {
        IslandReserve x = new IslandReserve();
        long[] digests = new long[6];
        Check.type(x, "f7");
        for (int call = 0; call < 6; call++) {
            digests[call] = x.digest();
            change(x, call);
        }
        for (int call = 5; call >= 0; call--) {
            Check.due("undo", x.undo(), call);
            Check.due("state before call " + call, x.digest(), digests[call]);
        }
    }

    private static void change(IslandReserve x, int call) {
        switch (call) {
            case 0: x.rate(1, 350, 20, 7, 0); break;
            case 1: x.start(1); break;
            case 2: x.forecast(2, 400); break;
            case 3: x.pass(5); break;
            case 4: x.set(0, 0); break;
            default: x.shed(); break;
        }
    }

    private static void undoForgetsTheOldest() {
        IslandReserve x = new IslandReserve();
        for (int load = 1; load <= 20; load++) {
            x.forecast(0, load);
            Check.due("saved states", x.count(14), Math.min(load, 6));
        }
        for (int left = 5; left >= 0; left--) {
            Check.due("undo", x.undo(), left);
            Check.due("forecast", x.hour(0, 0), 14 + left);
        }
        Check.badState(x, "undo behind the oldest", () -> x.undo());
        x.forecast(0, 900);
        Check.due("undo again", x.undo(), 0);
        Check.due("forecast", x.hour(0, 0), 14);
        x.set(0, 80);
        Check.due("saved also if it changes nothing", x.count(14), 1);
    }

    private static void undoRefuses() {
        IslandReserve x = new IslandReserve();
        Check.badState(x, "undo of nothing", () -> x.undo());
        Check.illegal(x, "a refused call", () -> x.lose(9));
        Check.badState(x, "a refused call saves nothing", () -> x.undo());
        x.append('s');
        Check.badState(x, "append saves nothing", () -> x.undo());
    }
}
