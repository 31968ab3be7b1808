/** Promises 6 to 9: shed, forecast, pass, set. */
final class HoursTest {
    private HoursTest() { }

    public static void main(String[] args) {
        shedShedsTheStore();
        shedTakesAShedStoreAgain();
        shedIsUndoable();
        shedReturnsWhetherItIsShed();
        forecastChangesOneHour();
        forecastOfAnHourThatHasGoneBy();
        forecastIsUndoable();
        forecastBoundsOfHour();
        forecastBoundsOfLoad();
        forecastReturnsTheLoadBefore();
        forecastRefusesAnyWrongArgument();
        passLetsHoursGoBy();
        passIsAsManySinglePasses();
        passIsUndoableAsOneCall();
        passBoundsOfHours();
        passReturnsItsDarkHours();
        passReturnsNoEarlierDarkHours();
        passRefusesHoursOutOfRange();
        passRefusesAnHourAbove48();
        setChangesOneSetting();
        setIsUndoable();
        setBoundsOfSetting();
        setBoundsOfValue();
        setReturnsThePreviousValue();
        setRefusesAMissingSetting();
        Check.end();
    }

    /** Doc, Promise 6: Sheds the store, */
    private static void shedShedsTheStore() {
        IslandReserve x = new IslandReserve();
        x.shed();
        Check.due("shed", x.count(10), 1);
        Check.due("its load is not taken", x.count(3), 100);
        x.pass(1);
        Check.hourIs(x, "nor in an hour that goes by", 0, 100, 100, 100, 0, 0, 0, 0);
    }

    /** Doc, Promise 6: or takes it again, if it is shed. */
    private static void shedTakesAShedStoreAgain() {
        IslandReserve x = new IslandReserve();
        x.shed();
        x.pass(1);
        x.shed();
        Check.due("taken", x.count(10), 0);
        Check.due("its load is taken", x.count(3), 180);
        x.pass(1);
        Check.due("also in an hour that goes by", x.hour(1, 1), 180);
        Check.due("what has gone by stays", x.hour(0, 1), 100);
    }

    /** Doc, Promise 6: Undoable. */
    private static void shedIsUndoable() {
        Check.undoable(Check.NEW, "shed", IslandReserve::shed);
        Check.undoable(IslandReserve::shed, "take again", IslandReserve::shed);
    }

    /** Doc, Promise 6: Returns 1 if it is shed then, otherwise 0. */
    private static void shedReturnsWhetherItIsShed() {
        IslandReserve x = new IslandReserve();
        Check.due("shed", x.shed(), 1);
        Check.due("taken", x.shed(), 0);
        Check.due("shed", x.shed(), 1);
        x.pass(48);
        Check.due("taken at the end", x.shed(), 0);
    }

    /** Doc, Promise 7: Changes the forecast. */
    private static void forecastChangesOneHour() {
        for (int hour = 0; hour <= 47; hour++) {
            IslandReserve x = new IslandReserve();
            x.forecast(hour, 777);
            for (int other = 0; other <= 47; other++) {
                Check.due("forecast of " + other, x.hour(other, 0), other == hour ? 777 : 100);
            }
        }
    }

    /** Doc, Promise 7: Changes the forecast. */
    private static void forecastOfAnHourThatHasGoneBy() {
        IslandReserve x = new IslandReserve();
        x.forecast(0, 7);
        x.pass(1);
        Check.due("its forecast", x.forecast(0, 300), 7);
        Check.hourIs(x, "its load stays", 0, 300, 87, 87, 0, 0, 0, 0);
    }

    /** Doc, Promise 7: Undoable. */
    private static void forecastIsUndoable() {
        Check.undoable(Check.NEW, "forecast", x -> x.forecast(47, 1500));
        Check.undoable(Check.NEW, "forecast of the same", x -> x.forecast(0, 100));
    }

    /** Doc, Promise 7: `hour`: 0 to 47 */
    private static void forecastBoundsOfHour() {
        Check.bounds(Check.NEW, "forecast(hour, 5)", 0, 47, Check.ILLEGAL,
                (x, hour) -> x.forecast(hour, 5));
    }

    /** Doc, Promise 7: `load`: 0 to 1500 */
    private static void forecastBoundsOfLoad() {
        Check.bounds(Check.NEW, "forecast(9, load)", 0, 1500, Check.ILLEGAL,
                (x, load) -> x.forecast(9, load));
    }

    /** Doc, Promise 7: Returns the load before. */
    private static void forecastReturnsTheLoadBefore() {
        IslandReserve x = new IslandReserve();
        Check.due("forecast", x.forecast(0, 1500), 100);
        Check.due("forecast again", x.forecast(0, 0), 1500);
        Check.due("forecast again", x.forecast(0, 9), 0);
        Check.due("of another hour", x.forecast(47, 9), 100);
        x.undo();
        x.undo();
        Check.due("of an undone one", x.forecast(0, 8), 0);
    }

    /** Doc, Promise 7: Throws `IllegalArgumentException` if an argument is out of range */
    private static void forecastRefusesAnyWrongArgument() {
        int[][] wrong = {{-1, 0}, {48, 0}, {-1, 1500}, {48, 1500}, {0, -1}, {0, 1501}, {47, -1},
            {47, 1501}, {-1, -1}, {48, 1501}};
        for (int[] pair : wrong) {
            Check.refused(Check.NEW, "forecast " + pair[0] + ", " + pair[1], Check.ILLEGAL,
                    x -> x.forecast(pair[0], pair[1]));
        }
    }

    /** Doc, Promise 8: Lets hours go by. */
    private static void passLetsHoursGoBy() {
        IslandReserve x = new IslandReserve();
        x.rate(0, 200, 60, 10, 3);
        x.start(0);
        x.forecast(4, 121);
        x.pass(5);
        Check.counts(x, "five hours", 0, 5, 1, 0);
        Check.hourIs(x, "the first", 0, 100, 180, 180, 0, 0, 0, 0);
        Check.hourIs(x, "the second", 1, 100, 180, 180, 0, 0, 0, 0);
        Check.hourIs(x, "the third", 2, 100, 180, 0, 0, 20, 0, 1);
        Check.hourIs(x, "the fourth", 3, 100, 180, 0, 0, 20, 0, 1);
        Check.hourIs(x, "the fifth", 4, 121, 201, 1, 0, 0, 0, 1);
        Check.hourIs(x, "the sixth has not gone by", 5, 100, -1, -1, -1, -1, -1, -1);
    }

    /** Doc, Promise 8: Lets hours go by. */
    private static void passIsAsManySinglePasses() {
        IslandReserve x = busy();
        IslandReserve y = busy();
        int dark = 0;
        for (int hour = 0; hour < 48; hour++) {
            dark += y.pass(1);
        }
        Check.due("as many dark hours", x.pass(48), dark);
        Check.due("the same state, but for the saved ones", x.digest(), y.digest());
    }

    private static IslandReserve busy() {
        IslandReserve x = new IslandReserve();
        x.rate(3, 500, 100, 3, 4);
        x.start(0);
        x.start(3);
        for (int hour = 0; hour < 48; hour += 3) {
            x.forecast(hour, 15 * hour);
        }
        return x;
    }

    /** Doc, Promise 8: Undoable, as one call. */
    private static void passIsUndoableAsOneCall() {
        Check.undoable(x -> x.start(0), "pass 1", x -> x.pass(1));
        Check.undoable(x -> x.start(0), "pass 48", x -> x.pass(48));
        IslandReserve x = new IslandReserve();
        x.pass(20);
        Check.due("saved states", x.count(14), 1);
        Check.due("undo", x.undo(), 0);
        Check.due("the hour", x.count(0), 0);
    }

    /** Doc, Promise 8: `hours`: 1 to 48 */
    private static void passBoundsOfHours() {
        Check.bounds(Check.NEW, "pass(hours)", 1, 48, Check.ILLEGAL, (x, hours) -> x.pass(hours));
    }

    /** Doc, Promise 8: Returns how many of them are dark. */
    private static void passReturnsItsDarkHours() {
        IslandReserve x = new IslandReserve();
        Check.due("all of 48", x.pass(48), 48);
        IslandReserve y = new IslandReserve();
        y.start(0);
        Check.due("none of 10", y.pass(10), 0);
        y.forecast(12, 121);
        y.forecast(13, 120);
        y.forecast(14, 1500);
        Check.due("two of 10", y.pass(10), 2);
        y.stop(0);
        Check.due("one of one", y.pass(1), 1);
    }

    /** Doc, Promise 8: Returns how many of them are dark. */
    private static void passReturnsNoEarlierDarkHours() {
        IslandReserve x = new IslandReserve();
        x.pass(7);
        x.start(0);
        Check.due("none of one", x.pass(1), 0);
        Check.due("all of them", x.count(11), 7);
        x.stop(0);
        Check.due("two of two", x.pass(2), 2);
        Check.due("all of them", x.count(11), 9);
    }

    /** Doc, Promise 8: Throws `IllegalArgumentException` if hours is out of range */
    private static void passRefusesHoursOutOfRange() {
        for (int hour : new int[] {1, 47, 48}) {
            for (int hours : new int[] {0, -1, 49, Integer.MIN_VALUE, Integer.MAX_VALUE}) {
                Check.refused(x -> x.pass(hour), "pass " + hours + " at " + hour, Check.ILLEGAL,
                        x -> x.pass(hours));
            }
        }
    }

    /** Doc, Promise 8: Throws `IllegalStateException` if the hour would be above 48 */
    private static void passRefusesAnHourAbove48() {
        for (int hour = 1; hour <= 48; hour++) {
            int gone = hour;
            if (hour < 48) {
                IslandReserve x = Check.after(y -> y.pass(gone));
                x.pass(48 - hour);
                Check.due("up to 48 from " + hour, x.count(0), 48);
            }
            Check.refused(x -> x.pass(gone), "to 49 from " + hour, Check.BAD_STATE,
                    x -> x.pass(49 - gone));
            Check.refused(x -> x.pass(gone), "48 from " + hour, Check.BAD_STATE, x -> x.pass(48));
        }
    }

    /** Doc, Promise 9: Changes a setting. | Doc, Promise 9: `value`: the new value */
    private static void setChangesOneSetting() {
        IslandReserve x = new IslandReserve();
        x.set(0, 33);
        Check.due("setting(0)", x.setting(0), 33);
        Check.due("setting(1)", x.setting(1), 6);
        x.set(1, 44);
        Check.due("setting(0)", x.setting(0), 33);
        Check.due("setting(1)", x.setting(1), 44);
        Check.due("load of now", x.count(3), 133);
    }

    /** Doc, Promise 9: Undoable. */
    private static void setIsUndoable() {
        Check.undoable(Check.NEW, "set(0, 300)", x -> x.set(0, 300));
        Check.undoable(Check.NEW, "set(1, 0)", x -> x.set(1, 0));
        Check.undoable(Check.NEW, "set to the same", x -> x.set(1, 6));
    }

    /** Doc, Promise 9: `setting`: 0 or 1 */
    private static void setBoundsOfSetting() {
        Check.bounds(Check.NEW, "set(setting, 5)", 0, 1, Check.OUT_OF_BOUNDS,
                (x, setting) -> x.set(setting, 5));
    }

    /** Doc, Promise 9: Throws `IndexOutOfBoundsException` if there is no such setting */
    private static void setRefusesAMissingSetting() {
        for (int value : new int[] {0, 48, 300}) {
            Check.refused(Check.NEW, "set(-1, " + value + ")", Check.OUT_OF_BOUNDS,
                    x -> x.set(-1, value));
            Check.refused(Check.NEW, "set(2, " + value + ")", Check.OUT_OF_BOUNDS,
                    x -> x.set(2, value));
        }
    }

    /** Doc, Promise 9: Throws `IllegalArgumentException` if value is out of range */
    private static void setBoundsOfValue() {
        Check.bounds(Check.NEW, "set(0, value)", 0, 300, Check.ILLEGAL, (x, v) -> x.set(0, v));
        Check.bounds(Check.NEW, "set(1, value)", 0, 48, Check.ILLEGAL, (x, v) -> x.set(1, v));
        Check.taken(Check.NEW, "set(0, 49)", x -> x.set(0, 49));
        Check.refused(Check.NEW, "set(1, 300)", Check.ILLEGAL, x -> x.set(1, 300));
    }

    /** Doc, Promise 9: Returns the previous value. */
    private static void setReturnsThePreviousValue() {
        IslandReserve x = new IslandReserve();
        Check.due("set(0, 300)", x.set(0, 300), 80);
        Check.due("set(0, 0)", x.set(0, 0), 300);
        Check.due("set(0, 1)", x.set(0, 1), 0);
        Check.due("set(1, 48)", x.set(1, 48), 6);
        Check.due("set(1, 0)", x.set(1, 0), 48);
        Check.due("set(1, 1)", x.set(1, 1), 0);
    }
}
