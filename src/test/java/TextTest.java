import java.util.regex.Matcher;

/** What the document tells under "Input text", and promises 10 to 12: append, clearBuffer,
 * firstError. */
final class TextTest {
    private TextTest() { }

    public static void main(String[] args) {
        bufferHasAtMost60Characters();
        planIsOneOrMoreOrders();
        plusAndASet();
        minusAndASet();
        shedAloneIsAnOrder();
        hoursAre1To48();
        forecastHoursAre0To47();
        forecastLoadsAre0To1500();
        forecastHasAllItsParts();
        numbersHaveNoLeadingZeros();
        onlyTheDocumentsSigns();
        readFromLeftToRight();
        planOfAnyLength();
        everyShortText();
        appendPutsACharacterBehind();
        appendBoundsOfCode();
        appendReturnsTheNewLength();
        appendRefusesACode();
        appendRefusesAFullBuffer();
        appendIsNotUndoable();
        clearBufferClears();
        clearBufferReturnsTheLength();
        clearBufferIsNotUndoable();
        firstErrorIsTheFirst();
        firstErrorReturnsTheIndex();
        firstErrorReturnsTheLength();
        firstErrorLeavesTheBuffer();
        Check.end();
    }

    /** The text is a plan: it has no error, and run takes it. */
    private static void plan(String text) {
        IslandReserve x = typed(text);
        Check.due("firstError of " + text, x.firstError(), text.length());
        Check.taken(y -> Check.type(y, text), "run of " + text, IslandReserve::run);
    }

    /** The text is no plan, but one begins with it. */
    private static void begins(String text) {
        Check.due("firstError of " + text, typed(text).firstError(), text.length());
        Check.refused(y -> Check.type(y, text), "run of " + text, Check.ILLEGAL,
                IslandReserve::run);
    }

    /** The text is no plan; its first syntax error is at a place. */
    private static void error(String text, int place) {
        Check.due("firstError of " + text, typed(text).firstError(), place);
        Check.refused(y -> Check.type(y, text), "run of " + text, Check.ILLEGAL,
                IslandReserve::run);
    }

    private static IslandReserve typed(String text) {
        return Check.after(x -> Check.type(x, text));
    }

    /** Doc, Input text: The buffer has at most 60 characters. */
    private static void bufferHasAtMost60Characters() {
        String sixty = "s;".repeat(30);
        Check.taken(x -> Check.type(x, sixty.substring(1)), "the 60th", x -> x.append(';'));
        Check.refused(x -> Check.type(x, sixty), "the 61st", Check.BAD_STATE,
                x -> x.append('s'));
        Check.due("60 are in it", typed(sixty).clearBuffer(), 60);
    }

    /** Doc, Input text: A plan as a text is one or more orders with ";" between them: */
    private static void planIsOneOrMoreOrders() {
        begins("");
        plan("s");
        plan("s;s");
        plan("+0;-0;s;h1;f0=0");
        begins("s;");
        error(";", 0);
        error(";s", 0);
        error("s;;s", 2);
        error("ss", 1);
        error("s+0", 1);
        error("+0-0", 2);
        error("h1s", 2);
        error("f0=1s", 4);
        error("s,s", 1);
        plan("s" + ";s".repeat(29));
    }

    /** Doc, Input text: "+" and a set, 0 to 3 (it begins to warm up); */
    private static void plusAndASet() {
        begins("+");
        for (int set = 0; set <= 3; set++) {
            plan("+" + set);
            IslandReserve x = typed("+" + set);
            x.run();
            Check.properties(x, "it warms up", set, 4, 1, 1);
        }
        for (char other = 33; other <= 126; other++) {
            if (other < '0' || other > '3') {
                error("+" + other, 1);
            }
        }
        error("+00", 2);
        error("+10", 2);
    }

    /** Doc, Input text: "-" and a set (it stands); */
    private static void minusAndASet() {
        begins("-");
        for (int set = 0; set <= 3; set++) {
            plan("-" + set);
            IslandReserve x = typed("+" + set + ";-" + set);
            x.run();
            Check.properties(x, "it stands", set, 4, 0, 0);
        }
        for (char other = 33; other <= 126; other++) {
            if (other < '0' || other > '3') {
                error("-" + other, 1);
            }
        }
        error("-00", 2);
        error("-30", 2);
    }

    /** Doc, Input text: "s" (the store is shed, or taken again); */
    private static void shedAloneIsAnOrder() {
        IslandReserve x = typed("s");
        x.run();
        Check.due("shed", x.count(10), 1);
        Check.type(x, "s");
        x.run();
        Check.due("taken again", x.count(10), 0);
        error("s0", 1);
        error("s=", 1);
    }

    /** Doc, Input text: "h" and hours, 1 to 48 (they go by); */
    private static void hoursAre1To48() {
        begins("h");
        error("h0", 1);
        for (int hours = 1; hours <= 48; hours++) {
            plan("h" + hours);
            IslandReserve x = typed("h" + hours);
            x.run();
            Check.due("they go by", x.count(0), hours);
        }
        for (int hours = 49; hours <= 99; hours++) {
            error("h" + hours, 2);
        }
        for (int hours = 100; hours <= 999; hours++) {
            error("h" + hours, hours / 10 <= 48 ? 3 : 2);
        }
        error("h;", 1);
        error("h=", 1);
        error("h1=", 2);
    }

    /** Doc, Input text: or "f", an hour, 0 to 47, "=", */
    private static void forecastHoursAre0To47() {
        for (int hour = 0; hour <= 47; hour++) {
            plan("f" + hour + "=9");
            IslandReserve x = typed("f" + hour + "=9");
            x.run();
            Check.due("the forecast of " + hour, x.hour(hour, 0), 9);
        }
        for (int hour = 48; hour <= 99; hour++) {
            error("f" + hour + "=9", 2);
        }
        for (int hour = 100; hour <= 999; hour++) {
            error("f" + hour + "=9", hour / 10 <= 47 ? 3 : 2);
        }
    }

    /** Doc, Input text: and a load, 0 to 1500 (the forecast). */
    private static void forecastLoadsAre0To1500() {
        for (int load = 0; load <= 1500; load++) {
            IslandReserve x = typed("f47=" + load);
            Check.due("run of the load " + load, x.run(), 1);
            Check.due("the forecast", x.hour(47, 0), load);
        }
        for (int load = 1501; load <= 9999; load++) {
            Check.due("load " + load, typed("f47=" + load).firstError(), 7);
        }
        plan("f0=1500");
        error("f0=1501", 6);
        error("f0=1510", 6);
        error("f0=1600", 6);
        error("f0=2000", 6);
        error("f0=15000", 7);
        error("f0=10000", 7);
    }

    /** Doc, Input text: "f", an hour, 0 to 47, "=", and a load, */
    private static void forecastHasAllItsParts() {
        begins("f");
        begins("f4");
        begins("f47");
        begins("f47=");
        plan("f47=1");
        error("f=", 1);
        error("f;", 1);
        error("f4;", 2);
        error("f47;", 3);
        error("f47=;", 4);
        error("f47==", 4);
        error("f47=1=", 5);
        error("f47=-1", 4);
        error("f+1=1", 1);
    }

    /** Doc, Input text: Numbers are without leading zeros. */
    private static void numbersHaveNoLeadingZeros() {
        error("+01", 2);
        error("-01", 2);
        error("h01", 1);
        error("h048", 1);
        error("f00=1", 2);
        error("f01=1", 2);
        error("f047=1", 2);
        plan("f0=0");
        error("f0=00", 4);
        error("f0=01", 4);
        error("f0=01500", 4);
        plan("h10");
        plan("f10=100");
    }

    /** Doc, Input text: A plan as a text is one or more orders */
    private static void onlyTheDocumentsSigns() {
        for (char first = 33; first <= 126; first++) {
            if ("+-shf".indexOf(first) < 0) {
                error("" + first, 0);
                error("s;" + first, 2);
            } else if (first != 's') {
                begins("" + first);
            }
        }
        error("S", 0);
        error("H1", 0);
        error("F1=1", 0);
    }

    /** Doc, Input text: The buffer is read from left to right; a character is a syntax error if
     * no plan as a text, */
    private static void readFromLeftToRight() {
        error("x", 0);
        error("xs", 0);
        error("s;x;+9", 2);
        error("h49;+9", 2);
        error("+0;-3;s;h48;f48=1500", 14);
        error("+0;-3;s;h48;f47=1501", 19);
        plan("+0;-3;s;h48;f47=1500");
    }

    /** Doc, Input text: of any length, begins with the characters before it and this
     * character. */
    private static void planOfAnyLength() {
        String orders = "s;".repeat(29);
        plan(orders + "h1");
        plan(orders + "+3");
        begins(orders + "f4");
        begins(orders + "f5");
        begins(orders + "s;");
        error(orders + "+5", 59);
        error(orders + "h0", 59);
        begins("s" + ";s".repeat(29) + ";");
        begins("s" + ";s".repeat(28) + ";f4");
    }

    /** Doc, Input text: a character is a syntax error if no plan as a text, of any length, begins
     * with the characters before it and this character. */
    private static void everyShortText() {
        String signs = "+-shf=;0123459";
        String[] starts = {"", "f4", "f0=", "f0=1", "f0=15", "f0=150", "h", "s;f3", "f9=9"};
        for (String start : starts) {
            for (int number = 0; number < 14 * 14 * 14; number++) {
                StringBuilder text = new StringBuilder(start);
                text.append(signs.charAt(number % 14)).append(signs.charAt(number / 14 % 14));
                text.append(signs.charAt(number / 196));
                compareWithPattern(text.toString());
            }
        }
    }

    /** Against a regular expression that can tell whether more could have helped. */
    private static void compareWithPattern(String text) {
        IslandReserve x = typed(text);
        int wanted = 0;
        while (wanted < text.length() && mayBegin(text.substring(0, wanted + 1))) {
            wanted++;
        }
        Check.due("firstError of " + text, x.firstError(), wanted);
        boolean isPlan = Model.PLAN.matcher(text).matches();
        String got = Check.outcome(x, IslandReserve::run);
        Check.due("run takes " + text, got.endsWith("Exception") ? 0 : 1, isPlan ? 1 : 0);
        Check.due("what run leaves of " + text, x.clearBuffer(), isPlan ? 0 : text.length());
    }

    private static boolean mayBegin(String text) {
        Matcher matcher = Model.PLAN.matcher(text);
        return matcher.matches() || matcher.hitEnd();
    }

    /** Doc, Promise 10: Appends a character to the buffer. */
    private static void appendPutsACharacterBehind() {
        IslandReserve x = new IslandReserve();
        x.append('h');
        x.append('4');
        x.append('8');
        Check.due("run", x.run(), 1);
        Check.due("h48, not h84", x.count(0), 48);
        IslandReserve one = typed("s");
        IslandReserve other = typed("h");
        Check.due("the digest tells the character", other.digest() - one.digest(), 'h' - 's');
    }

    /** Doc, Promise 10: `code`: the character code, 33 to 126 */
    private static void appendBoundsOfCode() {
        Check.bounds(Check.NEW, "append(code)", 33, 126, Check.ILLEGAL,
                (x, code) -> x.append(code));
        IslandReserve none = typed("");
        for (int code = 33; code <= 126; code++) {
            IslandReserve x = new IslandReserve();
            Check.due("append(" + code + ")", x.append(code), 1);
            Check.due("its digest", x.digest(), 31 * (none.digest() + 1) + code);
        }
    }

    /** Doc, Promise 10: Returns the new length of the buffer. */
    private static void appendReturnsTheNewLength() {
        IslandReserve x = new IslandReserve();
        for (int length = 1; length <= 60; length++) {
            Check.due("append", x.append(33 + length), length);
        }
        x.clearBuffer();
        Check.due("append to a cleared one", x.append('s'), 1);
        x.run();
        Check.due("append behind a run", x.append('s'), 1);
    }

    /** Doc, Promise 10: Throws `IllegalArgumentException` if code is not 33 to 126 */
    private static void appendRefusesACode() {
        Check.History some = x -> Check.type(x, "s;s");
        for (int code : new int[] {32, 127, 0, -1, 10, 128, 233, 65536 + 's', -200}) {
            Check.refused(some, "append(" + code + ")", Check.ILLEGAL, x -> x.append(code));
        }
    }

    /** Doc, Promise 10: Throws `IllegalStateException` if the buffer has 60 characters */
    private static void appendRefusesAFullBuffer() {
        Check.History of59 = x -> Check.type(x, "x".repeat(59));
        Check.History of60 = x -> Check.type(x, "x".repeat(60));
        Check.taken(of59, "append to 59", x -> x.append('s'));
        Check.refused(of60, "append to 60", Check.BAD_STATE, x -> x.append('s'));
        IslandReserve x = Check.after(of60);
        x.clearBuffer();
        Check.due("append to a cleared one", x.append('s'), 1);
    }

    /** Doc, Promise 10: Appends a character */
    private static void appendIsNotUndoable() {
        IslandReserve x = Check.after(y -> y.shed());
        x.append('s');
        Check.due("saved states", x.count(14), 1);
    }

    /** Doc, Promise 11: Clears the buffer. */
    private static void clearBufferClears() {
        IslandReserve x = typed("+0;x");
        x.clearBuffer();
        Check.due("nothing is left", x.digest(), new IslandReserve().digest());
        Check.due("no error", x.firstError(), 0);
        x.append('s');
        Check.due("what comes next stands alone", x.run(), 1);
        Check.counts(x, "shed, and none warms up", 10, 1);
        Check.due("none warms up", x.count(2), 0);
    }

    /** Doc, Promise 11: Returns the length that it had. */
    private static void clearBufferReturnsTheLength() {
        for (int length = 0; length <= 60; length++) {
            IslandReserve x = typed("x".repeat(length));
            Check.due("clearBuffer", x.clearBuffer(), length);
            Check.due("clearBuffer again", x.clearBuffer(), 0);
        }
    }

    /** Doc, Promise 11: Clears the buffer. */
    private static void clearBufferIsNotUndoable() {
        IslandReserve x = typed("s");
        x.clearBuffer();
        Check.due("saved states", x.count(14), 0);
    }

    /** Doc, Promise 12: Finds the first syntax error of the buffer. */
    private static void firstErrorIsTheFirst() {
        Check.due("of three", typed("s;x;x;x").firstError(), 2);
        Check.due("what is right behind it does not help", typed("h0;s").firstError(), 1);
    }

    /** Doc, Promise 12: Returns the index of the first character that is a syntax error; */
    private static void firstErrorReturnsTheIndex() {
        Check.due("the first character", typed("?").firstError(), 0);
        for (int length = 1; length <= 29; length++) {
            String text = "s;".repeat(length);
            Check.due("the last character", typed(text + "?").firstError(), 2 * length);
            Check.due("a ; too much", typed(text + ";").firstError(), 2 * length);
        }
        Check.due("the character 59", typed("s;".repeat(29) + "s?").firstError(), 59);
    }

    /** Doc, Promise 12: the length of the buffer if there is none. */
    private static void firstErrorReturnsTheLength() {
        Check.due("of nothing", typed("").firstError(), 0);
        for (int length = 1; length <= 60; length++) {
            String text = "s;".repeat(30).substring(0, length);
            Check.due("of " + length, typed(text).firstError(), length);
        }
    }

    /** Doc, Promise 12: Finds */
    private static void firstErrorLeavesTheBuffer() {
        for (String text : new String[] {"", "s", "s;", "x", "s;x"}) {
            Check.changesNothing(x -> Check.type(x, text), "firstError of " + text,
                    IslandReserve::firstError);
        }
    }
}
