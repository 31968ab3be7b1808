import java.util.Random;
import java.util.function.LongSupplier;

/** Long runs of calls, each answer against that of the Model; the seeds are fixed. */
final class ModelTest {
    private static final int RUNS = 500;
    /** More are not promised of an object. */
    private static final int CALLS = 512;
    private static final String[] TEXTS = {"+0", "-1", "s", "h1", "h3", "h48", "f47=1500", "f9=0",
        "+2;+3", "+1;h2;-1", "s;h5;s", "f3=700;f4=800", "+0;+0", "h12;+2;h2", "f1=200;h1;-0;s",
        "h49", "+4", ";", "f48=1", "f0=1501", "s;", "+0;-0;+1;-1;+2;-2;+3;-3;s;s;f0=1;h2"};
    private static final int[] ODD = {-1, Integer.MIN_VALUE, Integer.MAX_VALUE, 4, 5, 48, 49, 1501};

    private final Random random;
    private final IslandReserve x = new IslandReserve();
    private final Model model = new Model();
    private int calls = 0;

    private ModelTest(long seed) {
        random = new Random(seed);
    }

    public static void main(String[] args) {
        for (int seed = 0; seed < RUNS; seed++) {
            ModelTest test = new ModelTest(seed);
            while (test.calls < CALLS) {
                test.step("seed " + seed + ", call " + (test.calls + 1));
            }
        }
        Check.end();
    }

    private void compare(String what, LongSupplier asked, LongSupplier wanted) {
        if (calls < CALLS) {
            calls++;
            Check.dueText(what, answer(asked), answer(wanted));
        }
    }

    private static String answer(LongSupplier call) {
        try {
            return Long.toString(call.getAsLong());
        } catch (RuntimeException thrown) {
            return thrown.getClass().getSimpleName();
        }
    }

    /** A number mostly within its bounds, sometimes at their edge, seldom out of them. */
    private int number(int least, int most) {
        int kind = random.nextInt(20);
        if (kind == 0) {
            return ODD[random.nextInt(ODD.length)];
        }
        if (kind == 1) {
            return random.nextBoolean() ? least - 1 : most + 1;
        }
        if (kind < 5) {
            return random.nextBoolean() ? least : most;
        }
        return least + random.nextInt(most - least + 1);
    }

    private void step(String what) {
        int kind = random.nextInt(100);
        if (kind < 40) {
            change(what, kind / 5);
        } else if (kind < 55) {
            write(what);
        } else if (kind < 90) {
            look(what, random.nextInt(11));
        } else {
            compare(what + " digest", x::digest, model::digest);
        }
    }

    private void change(String what, int kind) {
        int set = number(0, 3);
        int hour = number(0, 47);
        switch (kind) {
            case 0 -> rate(what, set);
            case 1 -> compare(what + " start", () -> x.start(set), () -> model.start(set));
            case 2 -> passSome(what);
            case 3 -> lose(what, set);
            case 4 -> compare(what + " shed", x::shed, model::shed);
            case 5 -> forecast(what, hour);
            case 6 -> settingTo(what);
            default -> compare(what + " undo", x::undo, model::undo);
        }
    }

    private void rate(String what, int set) {
        int greatest = number(50, 500);
        int mostLeast = random.nextInt(3) == 0 ? 60 : Math.min(Math.max(greatest, 1), 500);
        int least = number(0, mostLeast);
        int merit = number(1, random.nextBoolean() ? 99 : 4);
        int hours = number(0, 4);
        compare(what + " rate", () -> x.rate(set, greatest, least, merit, hours),
                () -> model.rate(set, greatest, least, merit, hours));
    }

    private void passSome(String what) {
        int hours = random.nextInt(12) == 0 ? number(1, 48) : number(1, 3);
        compare(what + " pass", () -> x.pass(hours), () -> model.pass(hours));
    }

    private void lose(String what, int set) {
        if (random.nextInt(3) == 0) {
            compare(what + " lose", () -> x.lose(set), () -> model.lose(set));
        } else {
            compare(what + " stop", () -> x.stop(set), () -> model.stop(set));
        }
    }

    private void forecast(String what, int hour) {
        int load = number(0, random.nextBoolean() ? 1500 : 500);
        compare(what + " forecast", () -> x.forecast(hour, load), () -> model.forecast(hour, load));
    }

    private void settingTo(String what) {
        int setting = number(0, 1);
        int value = number(0, setting == 0 ? 300 : random.nextBoolean() ? 48 : 5);
        compare(what + " set", () -> x.set(setting, value), () -> model.set(setting, value));
    }

    private void write(String what) {
        String text = TEXTS[random.nextInt(TEXTS.length)];
        switch (random.nextInt(8)) {
            case 0 -> compare(what + " clearBuffer", x::clearBuffer, model::clearBuffer);
            case 1 -> compare(what + " firstError", x::firstError, model::firstError);
            case 2, 3 -> compare(what + " run", x::run, model::run);
            case 4 -> append(what, ";");
            case 5 -> append(what, Character.toString(random.nextInt(130)));
            default -> append(what, text);
        }
    }

    private void append(String what, String text) {
        for (int place = 0; place < text.length(); place++) {
            int code = text.charAt(place);
            compare(what + " append", () -> x.append(code), () -> model.append(code));
        }
    }

    private void look(String what, int kind) {
        int set = number(0, 3);
        int hour = number(0, 47);
        int part = number(0, kind == 1 ? 6 : 8);
        int most = random.nextInt(3) == 0 ? 14 : 7;
        int which = number(0, most);
        int one = number(0, 1);
        switch (kind) {
            case 0 -> compare(what + " setOf",
                    () -> x.setOf(set, part), () -> model.setOf(set, part));
            case 1 -> compare(what + " hour",
                    () -> x.hour(hour, part), () -> model.hour(hour, part));
            case 2, 3 -> compare(what + " count", () -> x.count(which), () -> model.count(which));
            case 4 -> compare(what + " setting", () -> x.setting(one), () -> model.setting(one));
            case 5 -> compare(what + " ifLost", () -> x.ifLost(set), () -> model.ifLost(set));
            case 6 -> compare(what + " cheapest", () -> x.cheapest(hour, one),
                    () -> model.cheapest(hour, one));
            case 7 -> compare(what + " firstDark", x::firstDark, model::firstDark);
            case 8 -> compare(what + " ifShed", x::ifShed, model::ifShed);
            case 9 -> compare(what + " bestStart", x::bestStart, model::bestStart);
            default -> compare(what + " safeShare",
                    () -> Double.doubleToLongBits(x.safeShare()),
                    () -> Double.doubleToLongBits(model.safeShare()));
        }
    }
}
