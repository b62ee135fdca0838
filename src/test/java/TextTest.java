/** Promises 24 to 27: put, wipe, fault, carryOut. */
public final class TextTest {
    public static void main(String[] args) {
        put();
        putHasALimit();
        wipe();
        faultless();
        faults();
        carryOut();
        carryOutStops();
        carryOutIsOneChange();
        ordersAreTheirCalls();
        Check.end("TextTest");
    }

    private static void put() {
        Check.promise("24 put");
        ErrorBudgets x = new ErrorBudgets();
        Check.due("no character", x.put(0), -2);
        Check.due("32", x.put(32), -2);
        Check.due("127", x.put(127), -2);
        Check.due("128", x.put(128), -2);
        Check.due("255", x.put(255), -2);
        Check.due("-1", x.put(-1), -2);
        Check.due("only above 8 bits that are 0", x.put('h' << 8), -2);
        Check.due("a gap", x.put('h' << 16 | '1'), -2);
        Check.due("far above", x.put(1L << 63 | '1'), -2);
        Check.due("far above", x.put(1L << 16 | '1'), -2);
        Check.due("a bad one before", x.put(32 << 8 | '1'), -2);
        Check.due("a bad eighth", x.put(Check.number("2345678") | 0xE8L << 56), -2);
        Check.due("length", x.count(8), 0);
        Check.due("the lowest code", x.put(33), 1);
        Check.due("the highest code", x.put(126), 2);
        Check.due("two", x.put('h' << 8 | '1'), 4);
        Check.due("eight", x.put(Check.number("~~~~~~~~")), 12);
        Check.due("length", x.count(8), 12);
        Check.due("no change", x.count(9), 0);
        x = new ErrorBudgets();
        x.put(Check.number("h12"));
        x.put(Check.number("3"));
        x.carryOut();
        Check.due("in their order", x.count(0), 123);
    }

    private static void putHasALimit() {
        Check.promise("24 put has a limit of 80 characters");
        ErrorBudgets x = new ErrorBudgets();
        for (int i = 1; i <= 9; i++) {
            Check.due("eight more", x.put(Check.number("h1;h1;h1")), 8 * i);
        }
        Check.due("75", x.put(Check.number(";h1")), 75);
        Check.due("81", x.put(Check.number(";h1;h1")), -4);
        Check.due("length", x.count(8), 75);
        Check.due("bad before too many", x.put(Check.number(";h1;h ")), -2);
        Check.due("80", x.put(Check.number(";h1;h")), 80);
        Check.due("81", x.put(Check.number("1")), -4);
        Check.due("fault", x.fault(), 8);
    }

    private static void wipe() {
        Check.promise("25 wipe");
        ErrorBudgets x = new ErrorBudgets();
        Check.due("empty", x.wipe(), 0);
        Check.type(x, "h1;h2;h3;h4");
        Check.due("length", x.wipe(), 11);
        Check.due("length", x.count(8), 0);
        Check.due("empty", x.wipe(), 0);
        Check.due("no change", x.count(9), 0);
        Check.due("again", x.put('h'), 1);
        Check.due("fault", x.fault(), 1);
    }

    private static void fault(String text, long due) {
        ErrorBudgets x = new ErrorBudgets();
        Check.type(x, text);
        Check.due("fault of " + text, x.fault(), due);
        Check.due("length of " + text, x.count(8), text.length());
        if (due >= 0) {
            Check.due("carryOut of " + text, x.carryOut(), -3);
            Check.due("it stays: " + text, x.count(8), text.length());
            Check.due("no change by " + text, x.count(9), 0);
        }
    }

    private static void faultless() {
        Check.promise("26 fault: none");
        String[] texts = {
            "o0*5%7", "o7*9999%0", "r0*5", "r7*0!", "l0>7*10/9", "l7>0*9999/0", "p0@1*2^3", "p7@9999*0^9",
            "x0", "x9999", "h1", "h0", "h1000", "r0*5;r0*5!;h10;x3", "o0*600%100;l1>0*5000/9",
            "h1;h1;h1;h1;h1;h1;h1;h1;h1;h1;h1;h1;h1;h1;h1;h1;h1;h1;h1;h1;h1;h1;h1;h1;h1;h1;h1",
        };
        for (String text : texts) {
            fault(text, -6);
        }
    }

    private static void faults() {
        Check.promise("26 fault");
        fault("", 0);
        String[] early = {
            "o", "o0", "o0*", "o0*5", "o0*5%", "r", "r0", "r0*", "l", "l0", "l0>", "l0>1", "l0>1*", "l0>1*5", "l0>1*5/",
            "p", "p0", "p0@", "p0@1", "p0@1*", "p0@1*2", "p0@1*2^", "x", "h", "h1;", "h1;o", "r0*5!;",
        };
        for (String text : early) {
            fault(text, text.length());
        }
        fault("a", 0);
        fault("H1", 0);
        fault(";", 0);
        fault("1", 0);
        fault("h1;;", 3);
        fault("h1,h2", 2);
        fault("h1h2", 2);
        fault("h-1", 1);
        fault("h00", 2);
        fault("h01", 2);
        fault("h10000", 5);
        fault("h99999", 5);
        fault("x12345;", 5);
        fault("h1!", 2);
        fault("o8*5%7", 1);
        fault("o9*5%7", 1);
        fault("o07*5%7", 2);
        fault("o0>5%7", 2);
        fault("o0*%7", 3);
        fault("o0*5*7", 4);
        fault("o0*05%7", 4);
        fault("o0*5%x", 5);
        fault("o0*5%7!", 6);
        fault("r8*5", 1);
        fault("r0*5!!", 5);
        fault("r0!", 2);
        fault("r0*!", 3);
        fault("r0*12345", 7);
        fault("l8>1*5/1", 1);
        fault("l0>8*5/1", 3);
        fault("l0*1*5/1", 2);
        fault("l0>1/5/1", 4);
        fault("l0>1*5*1", 6);
        fault("l0>1*5/x", 7);
        fault("l0>1*5/10", 8);
        fault("p8@1*2^3", 1);
        fault("p0*1*2^3", 2);
        fault("p0@1^2^3", 4);
        fault("p0@1*2*3", 6);
        fault("p0@1*2^33", 8);
        fault("h1;h2;o0*5%%7", 11);
        fault("r0*5;r0*5!;h10;x3;z", 18);
    }

    private static void carryOut() {
        Check.promise("27 carryOut");
        ErrorBudgets x = Check.house(1000, 1000);
        Check.due("empty", x.carryOut(), -3);
        Check.due("orders", Check.carryOut(x, "o0*100%50;r0*20;r0*30!;l1>0*70/4;p1@9*8^7;h3"), 6);
        Check.due("emptied", x.count(8), 0);
        Check.due("outage", x.account(0, 3), 50);
        Check.due("releases", x.account(0, 4), 50);
        Check.due("loan", x.ofLoan(0, 2), 70);
        Check.due("lender", x.ofLoan(0, 0), 1);
        Check.due("due", x.ofLoan(0, 4), 4);
        Check.due("plan's service", x.ofPlan(0, 0), 1);
        Check.due("plan's hour", x.ofPlan(0, 1), 9);
        Check.due("plan's size", x.ofPlan(0, 2), 8);
        Check.due("plan's priority", x.ofPlan(0, 3), 7);
        Check.due("the hour", x.count(0), 3);
        Check.due("from now", Check.carryOut(x, "p0@9*8^7;x0;h1"), 3);
        Check.due("plan's hour", x.ofPlan(0, 1), 12);
        Check.due("plans", x.count(6), 1);
        Check.due("the hour", x.count(0), 4);
        Check.due("all that fit", Check.carryOut(x, "h1;h1;h1;h1;h1;h1;h1;h1;h1;h1;h1;h1;h1;h1;h1;h1;h1;h1;"
            + "h1;h1;h1;h1;h1;h1;h1;h1;h1"), 27);
    }

    private static void carryOutStops() {
        Check.promise("27 carryOut stops at an error");
        ErrorBudgets x = Check.house(100, 100);
        Check.due("h0", Check.carryOut(x, "h1;h0;h1"), 1);
        Check.due("emptied", x.count(8), 0);
        Check.due("the hour", x.count(0), 1);
        Check.due("h1001", Check.carryOut(x, "h1001"), 0);
        Check.due("no service 2", Check.carryOut(x, "r0*1;o2*5%5;r0*1"), 1);
        Check.due("releases", x.ofService(0, 8), 1);
        Check.due("p0", Check.carryOut(x, "p0@0*5%5".replace('%', '^')), 0);
        Check.due("p2001", Check.carryOut(x, "p0@2000*5^5;p0@2001*5^5"), 1);
        Check.due("no plan 1", Check.carryOut(x, "x1"), 0);
        Check.due("no windows", Check.carryOut(x, "l0>1*5/0"), 0);
        Check.due("reason", x.count(7), 0);
        Check.due("refused", Check.carryOut(x, "l0>1*95/1"), 0);
        Check.due("reason", x.count(7), 3);
        Check.due("refused", Check.carryOut(x, "o0*99%100;r0*5;h5"), 1);
        Check.due("reason", x.count(7), 1);
        Check.due("exempt", Check.carryOut(x, "r0*5!;r0*5!"), 1);
        Check.due("no exemption is left", x.ofService(0, 2), 0);
    }

    private static void carryOutIsOneChange() {
        Check.promise("27 carryOut is one change");
        ErrorBudgets x = Check.house(100, 100);
        String before = Check.picture(x);
        Check.carryOut(x, "o0*5%5;r1*7;h1;p0@5*5^5;l0>1*5/5;h1");
        Check.due("one change", x.count(9), 3);
        Check.type(x, "h1");
        Check.due("undone", x.undo(), 2);
        Check.holds("as before", Check.picture(x).equals(before));
        Check.due("the pad stays", x.count(8), 2);
        Check.due("none is carried out", Check.carryOut(x, "h0"), 0);
        Check.due("a change all the same", x.count(9), 3);
    }

    private static void ordersAreTheirCalls() {
        Check.promise("27 carryOut does what the calls do");
        ErrorBudgets x = Check.house(300, 400, 500);
        ErrorBudgets y = Check.house(300, 400, 500);
        Check.due("orders", Check.carryOut(x, "o0*77%33;r1*55;l2>0*44/2;p0@5*66^8;p1@3*22^1;h4;x0;h165"), 8);
        y.outage(0, 77, 33);
        y.release(1, 55, 0);
        y.lend(2, 0, 44, 2);
        y.plan(0, 5, 66, 8);
        y.plan(1, 3, 22, 1);
        y.hours(4);
        y.drop(0);
        y.hours(165);
        Check.holds("the same state", Check.picture(x).equals(Check.picture(y)));
    }
}
