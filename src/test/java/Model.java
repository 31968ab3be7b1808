import java.util.ArrayDeque;
import java.util.ArrayList;
import java.util.Arrays;
import java.util.Comparator;
import java.util.Deque;
import java.util.List;
import java.util.regex.Matcher;
import java.util.regex.Pattern;

/** The document once more, as plainly as can be, to compare long runs of calls with. */
final class Model {
    private static final String ORDER = "(?:\\+[0-3]|-[0-3]|s|h(?:[1-9]|[1-3][0-9]|4[0-8])"
            + "|f(?:[0-9]|[1-3][0-9]|4[0-7])=(?:0|[1-9][0-9]{0,2}|1[0-4][0-9][0-9]|1500))";
    /** Of a whole plan; hitEnd() of a matcher tells whether more could make one. */
    static final Pattern PLAN = Pattern.compile(ORDER + "(?:;" + ORDER + ")*");

    enum Does { STANDS, WARMS_UP, RUNS, LOST }

    /** A set. */
    private static final class Engine implements Cloneable {
        final int number;
        int greatest = 200;
        int least = 60;
        int merit;
        int warmUp = 1;
        Does does = Does.STANDS;
        int left = 0;
        int fuel = 0;
        int ran = 0;

        Engine(int number) {
            this.number = number;
            this.merit = 10 + 10 * number;
        }

        Engine copy() {
            try {
                return (Engine) clone();
            } catch (CloneNotSupportedException never) {
                throw new AssertionError(never);
            }
        }
    }

    /** What came of an hour. */
    private record Gone(int load, int dark, int burned, int reserve, int enough, int mask) { }

    /** What came of sharing out. */
    private record Shared(int[] loads, int dark, int burned, int reserve, boolean enough) { }

    private static final class World {
        final List<Engine> engines = new ArrayList<>();
        final int[] forecast = new int[48];
        final List<Gone> gone = new ArrayList<>();
        int store = 80;
        int borne = 6;
        int warmth = 0;
        boolean spoiled = false;
        boolean shed = false;

        World copy() {
            World other = new World();
            engines.forEach(engine -> other.engines.add(engine.copy()));
            System.arraycopy(forecast, 0, other.forecast, 0, 48);
            other.gone.addAll(gone);
            other.store = store;
            other.borne = borne;
            other.warmth = warmth;
            other.spoiled = spoiled;
            other.shed = shed;
            return other;
        }
    }

    private World world = new World();
    private final Deque<World> undoable = new ArrayDeque<>();
    private String buffer = "";

    Model() {
        for (int number = 0; number < 4; number++) {
            world.engines.add(new Engine(number));
        }
        Arrays.fill(world.forecast, 100);
    }

    private static void argument(boolean fits) {
        if (!fits) {
            throw new IllegalArgumentException();
        }
    }

    private static void state(boolean fits) {
        if (!fits) {
            throw new IllegalStateException();
        }
    }

    private static boolean within(int value, int least, int most) {
        return least <= value && value <= most;
    }

    private Engine engine(int set) {
        argument(within(set, 0, 3));
        return world.engines.get(set);
    }

    private void save() {
        undoable.addLast(world.copy());
        if (undoable.size() > 6) {
            undoable.removeFirst();
        }
    }

    int rate(int set, int greatest, int least, int merit, int hours) {
        argument(within(greatest, 50, 500) && within(merit, 1, 99) && within(hours, 0, 4));
        argument(least >= 0 && least <= greatest);
        Engine engine = engine(set);
        state(engine.does == Does.STANDS);
        save();
        int before = engine.greatest;
        engine.greatest = greatest;
        engine.least = least;
        engine.merit = merit;
        engine.warmUp = hours;
        return before;
    }

    int start(int set) {
        state(engine(set).does == Does.STANDS);
        save();
        return startIn(world, set);
    }

    private static int startIn(World world, int set) {
        Engine engine = world.engines.get(set);
        engine.left = engine.warmUp;
        engine.does = engine.left > 0 ? Does.WARMS_UP : Does.RUNS;
        return engine.left;
    }

    int stop(int set) {
        Does does = engine(set).does;
        state(does == Does.WARMS_UP || does == Does.RUNS);
        save();
        engine(set).does = Does.STANDS;
        engine(set).left = 0;
        return running(world).size();
    }

    int lose(int set) {
        Engine engine = engine(set);
        save();
        engine.left = 0;
        engine.does = engine.does == Does.LOST ? Does.STANDS : Does.LOST;
        return engine.does == Does.LOST ? 1 : 0;
    }

    int shed() {
        save();
        world.shed ^= true;
        return world.shed ? 1 : 0;
    }

    int forecast(int hour, int load) {
        argument(within(hour, 0, 47) && within(load, 0, 1500));
        save();
        int before = world.forecast[hour];
        world.forecast[hour] = load;
        return before;
    }

    int pass(int hours) {
        argument(within(hours, 1, 48));
        state(world.gone.size() + hours <= 48);
        save();
        int dark = 0;
        for (int hour = 0; hour < hours; hour++) {
            dark += goBy(world).dark > 0 ? 1 : 0;
        }
        return dark;
    }

    int set(int setting, int value) {
        if (setting != 0 && setting != 1) {
            throw new IndexOutOfBoundsException();
        }
        argument(within(value, 0, setting == 0 ? 300 : 48));
        save();
        int before = setting(setting);
        if (setting == 0) {
            world.store = value;
        } else {
            world.borne = value;
        }
        return before;
    }

    private static List<Engine> running(World world) {
        return world.engines.stream().filter(engine -> engine.does == Does.RUNS).toList();
    }

    private static Shared share(List<Engine> running, int load) {
        int[] loads = new int[4];
        int most = running.stream().mapToInt(engine -> engine.greatest).sum();
        running.forEach(engine -> loads[engine.number] = engine.least);
        int still = load - Arrays.stream(loads).sum();
        int burned = still < 0 ? -still : 0;
        still += burned;
        List<Engine> inOrder = new ArrayList<>(running);
        inOrder.sort(Comparator.<Engine>comparingInt(engine -> engine.merit)
                .thenComparingInt(engine -> engine.number));
        for (Engine engine : inOrder) {
            while (still > 0 && loads[engine.number] < engine.greatest) {
                loads[engine.number]++;
                still--;
            }
        }
        boolean enough = still == 0;
        for (Engine lost : running) {
            enough &= most - lost.greatest >= load;
        }
        int reserve = most - Arrays.stream(loads).sum();
        return new Shared(loads, still, burned, reserve, enough);
    }

    private static int load(World world, int hour) {
        return world.forecast[hour] + (world.shed ? 0 : world.store);
    }

    private static Gone goBy(World world) {
        for (Engine engine : world.engines) {
            if (engine.does == Does.WARMS_UP && --engine.left == 0) {
                engine.does = Does.RUNS;
            }
        }
        List<Engine> running = running(world);
        int load = load(world, world.gone.size());
        Shared shared = share(running, load);
        int mask = 0;
        for (Engine engine : running) {
            mask += (int) Math.pow(2, engine.number);
            engine.fuel += engine.merit * shared.loads[engine.number] / 10;
            engine.ran++;
        }
        world.warmth = Math.max(0, world.warmth + (world.shed ? 1 : -1));
        if (world.warmth > world.borne) {
            world.spoiled = true;
        }
        Gone gone = new Gone(load, shared.dark, shared.burned, shared.reserve,
                shared.enough ? 1 : 0, mask);
        world.gone.add(gone);
        return gone;
    }

    int append(int code) {
        argument(within(code, 33, 126));
        state(buffer.length() < 60);
        buffer += (char) code;
        return buffer.length();
    }

    int clearBuffer() {
        int before = buffer.length();
        buffer = "";
        return before;
    }

    int firstError() {
        for (int place = 0; place < buffer.length(); place++) {
            Matcher matcher = PLAN.matcher(buffer.substring(0, place + 1));
            if (!matcher.matches() && !matcher.hitEnd()) {
                return place;
            }
        }
        return buffer.length();
    }

    int run() {
        argument(PLAN.matcher(buffer).matches());
        World before = world.copy();
        List<World> savedBefore = new ArrayList<>(undoable);
        int done = 0;
        try {
            for (String order : buffer.split(";")) {
                obey(order);
                done++;
            }
        } catch (IllegalStateException refused) {
            // The orders end here.
        }
        undoable.clear();
        undoable.addAll(savedBefore);
        World after = world;
        world = before;
        save();
        world = after;
        buffer = "";
        return done;
    }

    private void obey(String order) {
        String rest = order.substring(1);
        switch (order.charAt(0)) {
            case '+' -> start(Integer.parseInt(rest));
            case '-' -> stop(Integer.parseInt(rest));
            case 's' -> shed();
            case 'h' -> pass(Integer.parseInt(rest));
            default -> {
                String[] parts = rest.split("=");
                forecast(Integer.parseInt(parts[0]), Integer.parseInt(parts[1]));
            }
        }
    }

    int undo() {
        state(!undoable.isEmpty());
        world = undoable.removeLast();
        return undoable.size();
    }

    private int hourOfNow() {
        return world.gone.size() == 48 ? 47 : world.gone.size();
    }

    private Shared now() {
        return share(running(world), load(world, hourOfNow()));
    }

    int setOf(int set, int what) {
        Engine engine = engine(set);
        argument(within(what, 0, 8));
        int[] answers = {engine.greatest, engine.least, engine.merit, engine.warmUp,
            engine.does.ordinal(), engine.left, now().loads[set], engine.fuel, engine.ran};
        return answers[what];
    }

    int hour(int hour, int what) {
        argument(within(hour, 0, 47) && within(what, 0, 6));
        if (what == 0) {
            return world.forecast[hour];
        }
        if (hour >= world.gone.size()) {
            return -1;
        }
        Gone gone = world.gone.get(hour);
        int[] answers = {0, gone.load, gone.dark, gone.burned, gone.reserve, gone.enough,
            gone.mask};
        return answers[what];
    }

    private static int dark(World world) {
        return (int) world.gone.stream().filter(gone -> gone.dark > 0).count();
    }

    private static int fuel(World world) {
        return world.engines.stream().mapToInt(engine -> engine.fuel).sum();
    }

    private int unsafe() {
        return (int) world.gone.stream().filter(gone -> gone.enough == 0).count();
    }

    int count(int what) {
        argument(within(what, 0, 14));
        Shared now = now();
        int warming = (int) world.engines.stream().filter(e -> e.does == Does.WARMS_UP).count();
        int[] answers = {world.gone.size(), running(world).size(), warming,
            load(world, hourOfNow()), now.dark, now.burned, now.reserve, now.enough ? 1 : 0,
            world.warmth, world.spoiled ? 1 : 0, world.shed ? 1 : 0, dark(world), unsafe(),
            fuel(world), undoable.size()};
        return answers[what];
    }

    int setting(int setting) {
        if (setting != 0 && setting != 1) {
            throw new IndexOutOfBoundsException();
        }
        return setting == 0 ? world.store : world.borne;
    }

    int ifLost(int set) {
        engine(set);
        World other = world.copy();
        other.engines.get(set).does = Does.LOST;
        return share(running(other), load(other, hourOfNow())).dark;
    }

    int cheapest(int hour, int what) {
        argument(within(hour, 0, 47) && within(what, 0, 1));
        int best = -1;
        int leastFuel = -1;
        for (int mask = 15; mask >= 0; mask--) {
            int fuel = fuelOfMask(mask, load(world, hour));
            if (fuel >= 0 && (best < 0 || fuel <= leastFuel)) {
                best = mask;
                leastFuel = fuel;
            }
        }
        return what == 0 ? best : leastFuel;
    }

    /** The fuel of the sets of a mask; -1 if they may not or can not do it. */
    private int fuelOfMask(int mask, int load) {
        List<Engine> chosen = new ArrayList<>();
        for (Engine engine : world.engines) {
            if ((mask & 1 << engine.number) != 0) {
                if (engine.does == Does.LOST) {
                    return -1;
                }
                chosen.add(engine);
            }
        }
        Shared shared = share(chosen, load);
        int fuel = 0;
        for (Engine engine : chosen) {
            fuel += engine.merit * shared.loads[engine.number] / 10;
        }
        return shared.enough ? fuel : -1;
    }

    private static World toTheEnd(World from) {
        while (from.gone.size() < 48) {
            goBy(from);
        }
        return from;
    }

    int firstDark() {
        World end = toTheEnd(world.copy());
        for (int hour = world.gone.size(); hour < 48; hour++) {
            if (end.gone.get(hour).dark > 0) {
                return hour;
            }
        }
        return -1;
    }

    int ifShed() {
        World other = world.copy();
        other.shed ^= true;
        return 100 + dark(toTheEnd(world.copy())) - dark(toTheEnd(other));
    }

    int bestStart() {
        record Tried(int dark, int fuel, int set) { }
        int darkNow = dark(toTheEnd(world.copy()));
        List<Tried> all = new ArrayList<>();
        for (Engine engine : world.engines) {
            if (engine.does == Does.STANDS) {
                World other = world.copy();
                startIn(other, engine.number);
                toTheEnd(other);
                all.add(new Tried(dark(other), fuel(other), engine.number));
            }
        }
        return all.stream().filter(tried -> tried.dark < darkNow)
                .min(Comparator.comparingInt(Tried::dark).thenComparingInt(Tried::fuel)
                        .thenComparingInt(Tried::set))
                .map(Tried::set).orElse(-1);
    }

    double safeShare() {
        int hours = world.gone.size();
        return hours == 0 ? 1.0 : (hours - unsafe()) / (double) hours;
    }

    long digest() {
        List<Long> values = new ArrayList<>();
        for (int what = 0; what <= 14; what++) {
            values.add((long) count(what));
        }
        values.add((long) world.store);
        values.add((long) world.borne);
        for (int set = 0; set < 4; set++) {
            for (int what = 0; what <= 8; what++) {
                values.add((long) setOf(set, what));
            }
            values.add((long) ifLost(set));
        }
        for (int hour = 0; hour < 48; hour++) {
            for (int what = 0; what <= 6; what++) {
                values.add((long) hour(hour, what));
            }
        }
        for (int hour : new int[] {0, 20, 47}) {
            values.add((long) cheapest(hour, 0));
            values.add((long) cheapest(hour, 1));
        }
        values.add((long) firstDark());
        values.add((long) ifShed());
        values.add((long) bestStart());
        values.add(Double.doubleToLongBits(safeShare()));
        values.add((long) buffer.length());
        buffer.chars().forEach(code -> values.add((long) code));
        long hash = 3041;
        for (long value : values) {
            hash = 31 * hash + value;
        }
        return hash;
    }
}
