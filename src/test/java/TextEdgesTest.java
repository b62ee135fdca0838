/** The sentences about texts that name an edge: what may stand where, numbers, the pad's length, where orders stop. */
public final class TextEdgesTest {
    private static final int BAD_VALUE = -2, BAD_TEXT = -3, TOO_MANY = -4, NONE = -6;
    private static final String KINDS = "orlpxh", SERVICE = "01234567", DIGIT = "0123456789";

    public static void main(String[] args) {
        orders();
        outages();
        releases();
        loans();
        plans();
        dropsAndHours();
        textsAsLongAsThePad();
        codes();
        charactersInANumber();
        gapsInANumber();
        lengthOfThePad();
        emptyPad();
        numbersOfOrders();
        ordersThatAreTooMany();
        ordersUpToTheFirstError();
        oneChangeOfSix();
        Check.end("TextEdgesTest");
    }

    private static int faultOf(String text) {
        ErrorBudgets x = new ErrorBudgets();
        Check.type(x, text);
        return x.fault();
    }

    /** Of all characters those that are named, and no other ones, can stand behind a text that is not at its end. */
    private static void open(String text, String allowed) {
        Check.due("fault of " + text, faultOf(text), text.length());
        next(text, allowed);
    }

    /** The same behind a text that could also end there. */
    private static void whole(String text, String allowed) {
        Check.due("fault of " + text, faultOf(text), NONE);
        next(text, allowed + ";");
    }

    private static void next(String text, String allowed) {
        for (char sign = 33; sign <= 126; sign++) {
            boolean stands = faultOf(text + sign) != text.length();
            Check.holds(text + sign + (stands ? " is no" : " is a") + " fault", stands == allowed.indexOf(sign) >= 0);
            // What comes behind it does not matter.
            if (!stands) {
                Check.due("fault of " + text + sign + ";h1", faultOf(text + sign + ";h1"), text.length());
            }
        }
    }

    /** A number of a text that starts so, and goes on so behind it: 0 to 9999, without leading zeros. */
    private static void number(String before, String behind, boolean last) {
        open(before, DIGIT);
        for (String digits : new String[] {"0", "1", "9", "10", "99", "100", "999", "1000", "9999"}) {
            boolean more = digits.length() < 4 && !digits.equals("0");
            if (last) {
                whole(before + digits, behind + (more ? DIGIT : ""));
            } else {
                open(before + digits, behind + (more ? DIGIT : ""));
            }
        }
        Check.due("a leading zero", faultOf(before + "01"), before.length() + 1);
        Check.due("two zeros", faultOf(before + "00"), before.length() + 1);
        Check.due("10000", faultOf(before + "10000"), before.length() + 4);
        Check.due("99999999999", faultOf(before + "99999999999"), before.length() + 4);
    }

    private static void orders() {
        Check.promise("26 text = order { \";\" order }");
        open("", KINDS);
        open("h1;", KINDS);
        open("r0*1!;x9999;", KINDS);
        Check.due("only a ;", faultOf(";"), 0);
        Check.due("two of them", faultOf("h1;;h1"), 3);
        Check.due("the first of two faults", faultOf("h01;x01"), 2);
        Check.due("capitals", faultOf("H1"), 0);
    }

    private static void outages() {
        Check.promise("26 \"o\" digit \"*\" number \"%\" number");
        open("o", SERVICE);
        open("o0", "*");
        open("o7", "*");
        number("o7*", "%", false);
        number("o7*9999%", "", true);
        number("h1;o0*0%", "", true);
    }

    private static void releases() {
        Check.promise("26 \"r\" digit \"*\" number [ \"!\" ]");
        open("r", SERVICE);
        open("r0", "*");
        open("r7", "*");
        number("r7*", "!", true);
        whole("r7*0!", "");
        whole("r7*9999!", "");
        number("r0*0!;r0*", "!", true);
    }

    private static void loans() {
        Check.promise("26 \"l\" digit \">\" digit \"*\" number \"/\" digit");
        open("l", SERVICE);
        open("l0", ">");
        open("l7", ">");
        open("l0>", SERVICE);
        open("l0>0", "*");
        open("l0>7", "*");
        number("l7>0*", "/", false);
        open("l0>1*5/", DIGIT);
        whole("l0>1*9999/0", "");
        whole("l0>1*0/9", "");
    }

    private static void plans() {
        Check.promise("26 \"p\" digit \"@\" number \"*\" number \"^\" digit");
        open("p", SERVICE);
        open("p0", "@");
        open("p7", "@");
        number("p7@", "*", false);
        number("p7@9999*", "^", false);
        open("p0@1*2^", DIGIT);
        whole("p0@0*0^0", "");
        whole("p0@9999*9999^9", "");
    }

    private static void dropsAndHours() {
        Check.promise("26 \"x\" number | \"h\" number");
        number("x", "", true);
        number("h", "", true);
        number("x0;h", "", true);
    }

    private static void textsAsLongAsThePad() {
        Check.promise("26 the length of the text, also of 80 characters");
        String most = "h1;".repeat(26) + "h1";
        Check.due("80 characters", most.length(), 80);
        Check.due("without a fault", faultOf(most), NONE);
        Check.due("too early by one", faultOf(most.substring(0, 79)), 79);
        Check.due("ends behind a kind", faultOf("h12;" + "h1;".repeat(25) + "h"), 80);
        Check.due("ends with a ;", faultOf("h12;h12;" + "h1;".repeat(24)), 80);
        Check.due("the last one is a fault", faultOf(most.substring(0, 79) + "h"), 79);
        Check.due("the first one is a fault", faultOf("H" + most.substring(1)), 0);
        String longest = "l0>1*1000/5;".repeat(6) + "r0*1234!";
        Check.due("80 characters", longest.length(), 80);
        Check.due("without a fault", faultOf(longest), NONE);
        Check.due("a digit too many", faultOf(longest.substring(0, 79) + "5"), 79);
        Check.due("a text of faults", faultOf("~".repeat(80)), 0);
        Check.due("a number of 79 digits", faultOf("h" + "1".repeat(79)), 5);
        ErrorBudgets x = new ErrorBudgets();
        Check.due("27 orders", Check.carryOut(x, most), 27);
        Check.due("the hour", x.count(0), 27);
    }

    private static long at(int place, int code) {
        return (long) code << 8 * place;
    }

    private static void codes() {
        Check.promise("24 a code is not 33 to 126");
        for (int place = 0; place < 8; place++) {
            long rest = Check.number("AAAAAAAA") & ~at(place, 255);
            for (int code = 1; code <= 255; code++) {
                boolean taken = code >= 33 && code <= 126;
                Check.due("code " + code + " at " + place, new ErrorBudgets().put(rest | at(place, code)), taken ? 8 : BAD_VALUE);
            }
        }
        for (int code = 0; code <= 255; code++) {
            boolean taken = code >= 33 && code <= 126;
            Check.due("code " + code + " alone", new ErrorBudgets().put(code), taken ? 1 : BAD_VALUE);
        }
        for (long far : new long[] {Long.MIN_VALUE, Long.MAX_VALUE, -1, Integer.MIN_VALUE, Integer.MAX_VALUE, 1L << 32, 1L << 56}) {
            Check.due("far " + far, new ErrorBudgets().put(far), BAD_VALUE);
        }
    }

    private static void charactersInANumber() {
        Check.promise("24 1 to 8 characters, the lowest 8 bits are the last");
        String text = "h1234;x0";
        int[] faults = {1, NONE, NONE, NONE, NONE, 6, 7, NONE};
        for (int length = 1; length <= 8; length++) {
            ErrorBudgets x = new ErrorBudgets();
            Check.due("characters", x.put(Check.number(text.substring(0, length))), length);
            Check.due("fault of " + text.substring(0, length), x.fault(), faults[length - 1]);
            Check.due("length", x.count(8), length);
        }
        ErrorBudgets x = new ErrorBudgets();
        x.put(Check.number("h1"));
        x.put(Check.number("23"));
        Check.due("the order of two numbers", x.carryOut(), 1);
        Check.due("h123", x.count(0), 123);
    }

    private static void gapsInANumber() {
        Check.promise("24 everything above 8 bits that are 0 has to be 0");
        ErrorBudgets x = new ErrorBudgets();
        for (int gap = 0; gap < 8; gap++) {
            long below = Check.number("AAAAAAAA") & (1L << 8 * gap) - 1;
            for (int bit = 8 * gap + 8; bit < 64; bit++) {
                Check.due("bit " + bit + " above " + gap, x.put(below | 1L << bit), BAD_VALUE);
            }
            for (int place = gap + 1; place < 8; place++) {
                Check.due("an A above " + gap, x.put(below | at(place, 'A')), BAD_VALUE);
            }
        }
        Check.due("nothing is put", x.count(8), 0);
    }

    private static void lengthOfThePad() {
        Check.promise("24 TOO_MANY if the pad would be longer than 80");
        for (int more = 1; more <= 8; more++) {
            ErrorBudgets x = new ErrorBudgets();
            Check.type(x, "h".repeat(80 - more + 1));
            long added = Check.number("1;h1;h1;".substring(0, more));
            Check.due("81", x.put(added), TOO_MANY);
            Check.due("bad before too many", x.put(added & ~255L | 127), BAD_VALUE);
            Check.due("no character before too many", x.put(0), BAD_VALUE);
            Check.due("unchanged", x.wipe(), 80 - more + 1);
            Check.type(x, "h".repeat(80 - more));
            Check.due("80", x.put(added), 80);
            Check.due("full", x.put('1'), TOO_MANY);
            Check.due("full", x.put(Check.number("11111111")), TOO_MANY);
            Check.due("unchanged", x.wipe(), 80);
            Check.due("empty", x.put(added), more);
        }
    }

    private static void emptyPad() {
        Check.promise("25 to 27: an empty pad");
        ErrorBudgets x = new ErrorBudgets();
        Check.due("fault", x.fault(), 0);
        Check.due("carryOut", x.carryOut(), BAD_TEXT);
        Check.due("wipe", x.wipe(), 0);
        Check.type(x, "h1");
        Check.due("carryOut", x.carryOut(), 1);
        Check.due("length", x.count(8), 0);
        Check.due("fault", x.fault(), 0);
        Check.due("it was emptied", x.carryOut(), BAD_TEXT);
        Check.type(x, "h1;h1;h1;h");
        Check.due("wipe", x.wipe(), 10);
        Check.type(x, "x");
        Check.due("nothing of the old text is read", x.fault(), 1);
        x.put('0');
        Check.due("nothing of the old text is read", x.fault(), NONE);
        Check.due("the hour", x.count(0), 1);
    }

    /** An order whose number is in its range is carried out; the ones beyond it are not. */
    private static void order(String before, int number, String behind, boolean taken) {
        ErrorBudgets x = Check.house(10000, 10000, 10000, 10000, 10000, 10000, 10000, 10000);
        x.plan(0, 900, 1, 0);
        x.plan(7, 950, 1, 0);
        String text = before + number + behind;
        Check.due(text, Check.carryOut(x, text), taken ? 1 : 0);
        Check.due("emptied", x.count(8), 0);
        Check.due("one change", x.count(9), 6);
        Check.due("no reason", x.count(7), 0);
    }

    private static void range(String before, int lowest, int highest, String behind) {
        order(before, lowest, behind, true);
        order(before, highest, behind, true);
        order(before, highest + 1, behind, false);
        order(before, 9999, behind, false);
        if (lowest > 0) {
            order(before, lowest - 1, behind, false);
        }
    }

    private static void numbersOfOrders() {
        Check.promise("27 numbers of orders, and the ones beyond their ranges");
        range("o0*", 1, 600, "%50");
        range("o7*600%", 1, 100, "");
        range("r7*", 1, 200, "");
        range("r0*", 1, 200, "!");
        range("l0>7*", 1, 5000, "/1");
        range("p7@", 1, 2000, "*200^9");
        range("p0@2000*", 1, 200, "^0");
        range("x", 0, 1, "");
        range("h", 1, 1000, "");
        order("l7>0*5000/", 0, "", false);
        order("l7>0*5000/", 1, "", true);
        order("l7>0*5000/", 9, "", true);
        order("l7>7*5000/", 1, "", false);
        order("p0@1*1^", 0, "", true);
        order("p0@1*1^", 9, "", true);
        ErrorBudgets x = Check.house(100);
        Check.due("a service that there is not", Check.carryOut(x, "o1*1%1"), 0);
        Check.due("a service that there is not", Check.carryOut(x, "r7*1!"), 0);
        Check.due("a borrower that there is not", Check.carryOut(x, "l0>1*1/1"), 0);
        Check.due("a plan that there is not", Check.carryOut(x, "x0"), 0);
        Check.due("hours of plans are counted from now", Check.carryOut(x, "h1000;p0@2000*5^5;h1000;p0@1*5^5"), 4);
        Check.due("hour", x.ofPlan(0, 1), 3000);
        Check.due("hour", x.ofPlan(1, 1), 2001);
    }

    private static void ordersThatAreTooMany() {
        Check.promise("27 orders that are too many");
        ErrorBudgets x = Check.house(1000, 1000, 1000, 1000, 1000);
        for (int plan = 0; plan < 29; plan++) {
            x.plan(0, 50, 1, 1);
        }
        Check.due("30 plans", Check.carryOut(x, "p0@50*1^1;p0@50*1^1;h1"), 1);
        Check.due("plans", x.count(6), 30);
        Check.due("the hour", x.count(0), 0);
        Check.due("room for one", Check.carryOut(x, "x29;p1@50*1^1;p1@50*1^1"), 2);
        x.set(6, 10);
        for (int loan = 0; loan < 39; loan++) {
            x.lend(4, loan % 4, 1, 9);
        }
        Check.due("40 loans", Check.carryOut(x, "l4>3*1/9;l4>3*1/9"), 1);
        Check.due("loans", x.count(5), 40);
        Check.due("too many are not refused", x.count(7), 0);
    }

    private static void ordersUpToTheFirstError() {
        Check.promise("27 up to the first one that returns an error");
        for (int error = 0; error < 9; error++) {
            ErrorBudgets x = Check.house(100);
            StringBuilder text = new StringBuilder();
            for (int order = 0; order < 9; order++) {
                text.append(order > 0 ? ";" : "").append(order == error ? "h0" : "r0*1");
            }
            Check.due("the order " + error + " is an error", Check.carryOut(x, text.toString()), error);
            Check.due("those before it", x.ofService(0, 8), error);
            Check.due("emptied", x.count(8), 0);
            Check.due("one change", x.count(9), 2);
            Check.due("undone", x.undo(), 1);
            Check.due("those before it", x.ofService(0, 8), 0);
            Check.due("it stays empty", x.count(8), 0);
        }
        ErrorBudgets x = Check.house(100);
        Check.type(x, "r0*1;r0*1;r0*01");
        Check.due("a fault behind good orders", x.carryOut(), BAD_TEXT);
        Check.due("none is carried out", x.ofService(0, 8), 0);
        Check.due("it stays", x.count(8), 15);
        Check.due("no change", x.count(9), 1);
        Check.due("refused at once", Check.carryOut(x, "l0>0*1/1;h1"), 0);
    }

    private static void oneChangeOfSix() {
        Check.promise("27 one change, with all of them, of at most 6");
        ErrorBudgets x = Check.house(1000);
        for (int hour = 1; hour <= 6; hour++) {
            x.hours(1);
        }
        Check.due("changes", x.count(9), 6);
        Check.due("orders", Check.carryOut(x, "h1;h1;h1;r0*1;r0*1;o0*1%1;p0@1*1^1;h1;h1"), 9);
        Check.due("changes", x.count(9), 6);
        Check.due("undone", x.undo(), 5);
        Check.due("the hour", x.count(0), 6);
        for (int left = 4; left >= 0; left--) {
            Check.due("undone", x.undo(), left);
        }
        Check.due("the oldest one was dropped", x.count(0), 1);
        Check.due("nothing more", x.undo(), NONE);
        Check.type(x, "h01");
        x.hours(1);
        x.carryOut();
        Check.due("a fault drops nothing", x.undo(), 0);
        Check.due("the hour", x.count(0), 1);
    }
}
