/** Promises 1 to 4: a new object, set, service, budget. */
public final class SetupTest {
    public static void main(String[] args) {
        constants();
        newObject();
        set();
        settingsFreezeNobody();
        service();
        budget();
        budgetFreezesNobody();
        Check.end("SetupTest");
    }

    private static void constants() {
        Check.promise("the constants");
        int[] codes = {ErrorBudgets.NO_SUCH, ErrorBudgets.BAD_VALUE, ErrorBudgets.BAD_TEXT, ErrorBudgets.TOO_MANY,
            ErrorBudgets.REFUSED, ErrorBudgets.NONE};
        int[] settings = {ErrorBudgets.WINDOW, ErrorBudgets.CARRY, ErrorBudgets.INTEREST, ErrorBudgets.THAW,
            ErrorBudgets.PENALTY, ErrorBudgets.PATIENCE, ErrorBudgets.LOANS, ErrorBudgets.EXEMPT};
        for (int i = 0; i < codes.length; i++) {
            Check.due("the code " + i, codes[i], -1 - i);
        }
        for (int i = 0; i < settings.length; i++) {
            Check.due("the setting " + i, settings[i], i);
        }
    }

    private static void newObject() {
        Check.promise("1 a new object");
        ErrorBudgets x = new ErrorBudgets();
        for (int what = 0; what < 10; what++) {
            Check.due("count(" + what + ")", x.count(what), 0);
        }
        int[] first = {168, 25, 10, 10, 20, 48, 3, 1};
        for (int setting = 0; setting < 8; setting++) {
            Check.due("first value of " + setting, x.count(10 + setting), first[setting]);
        }
        Check.due("ofService(0, 0)", x.ofService(0, 0), -1);
        Check.due("undo()", x.undo(), -6);
        Check.due("restore(0)", x.restore(0), -1);
        Check.due("fault()", x.fault(), 0);
        new ErrorBudgets().service(100);
        Check.due("another object's service", x.count(3), 0);
    }

    private static void set() {
        Check.promise("2 set");
        int[] first = {168, 25, 10, 10, 20, 48, 3, 1};
        int[] lowest = {12, 0, 0, 0, 0, 0, 0, 0};
        int[] highest = {720, 100, 100, 100, 100, 300, 10, 9};
        ErrorBudgets x = new ErrorBudgets();
        for (int setting = 0; setting < 8; setting++) {
            Check.due("below", x.set(setting, lowest[setting] - 1), -2);
            Check.due("above", x.set(setting, highest[setting] + 1), -2);
            Check.due("far below", x.set(setting, Integer.MIN_VALUE), -2);
            Check.due("far above", x.set(setting, Integer.MAX_VALUE), -2);
            Check.due("unchanged", x.count(10 + setting), first[setting]);
            Check.due("lowest", x.set(setting, lowest[setting]), first[setting]);
            Check.due("highest", x.set(setting, highest[setting]), lowest[setting]);
            Check.due("the same again", x.set(setting, highest[setting]), highest[setting]);
            Check.due("changed", x.count(10 + setting), highest[setting]);
        }
        Check.due("no such setting", x.set(8, 20), -2);
        Check.due("no such setting", x.set(-1, 20), -2);
        Check.due("no such setting", x.set(Integer.MAX_VALUE, 20), -2);
        Check.due("no such setting", x.set(Integer.MIN_VALUE, 20), -2);
        Check.due("a change", x.count(9), 6);
        x = new ErrorBudgets();
        x.set(0, 11);
        Check.due("an error is no change", x.count(9), 0);
        x.set(0, 168);
        Check.due("the same value is a change", x.count(9), 1);
    }

    private static void settingsFreezeNobody() {
        Check.promise("2 set freezes nobody");
        ErrorBudgets x = Check.house(100);
        x.outage(0, 100, 100);
        x.outage(0, 100, 5);
        x.set(3, 90);
        Check.due("still frozen", x.ofService(0, 1), 1);
        x = Check.house(100, 1000);
        x.outage(0, 100, 100);
        x.lend(1, 0, 9, 1);
        Check.due("9 are not more than 10", x.ofService(0, 1), 1);
        x.set(3, 0);
        Check.due("nobody thaws by a setting", x.ofService(0, 1), 1);
        x.release(0, 1, 1);
        Check.due("but by the next change of minutes, even a smaller one", x.ofService(0, 1), 0);
        x.outage(0, 3, 100);
        x.set(3, 100);
        Check.due("nobody is frozen by a setting", x.ofService(0, 1), 0);
        x.outage(0, 1, 1);
        Check.due("nor by a change to more than 0", x.ofService(0, 1), 0);
        x = Check.house(100);
        x.set(7, 5);
        Check.due("exemptions come with the next window", x.ofService(0, 2), 1);
        x.hours(168);
        Check.due("exemptions came", x.ofService(0, 2), 5);
    }

    private static void service() {
        Check.promise("3 service");
        ErrorBudgets x = new ErrorBudgets();
        Check.due("too little", x.service(9), -2);
        Check.due("too much", x.service(10001), -2);
        Check.due("negative", x.service(Integer.MIN_VALUE), -2);
        Check.due("least", x.service(10), 0);
        x.set(7, 7);
        Check.due("most", x.service(10000), 1);
        Check.due("budget", x.ofService(0, 0), 10);
        Check.due("exemptions", x.ofService(0, 2), 1);
        Check.due("exemptions by the setting", x.ofService(1, 2), 7);
        Check.due("budget", x.ofService(1, 0), 10000);
        Check.due("granted", x.account(1, 0), 10000);
        Check.due("left", x.account(1, 8), 10000);
        for (int what = 1; what <= 7; what++) {
            Check.due("account " + what, x.account(1, what), 0);
        }
        for (int what = 3; what <= 10; what++) {
            Check.due("number " + what, x.ofService(1, what), 0);
        }
        Check.due("not frozen", x.ofService(1, 1), 0);
        for (int service = 2; service < 8; service++) {
            Check.due("service", x.service(100), service);
        }
        Check.due("the ninth", x.service(100), -4);
        Check.due("a bad ninth", x.service(9), -2);
        Check.due("services", x.count(3), 8);
        x.undo();
        Check.due("services", x.count(3), 7);
        Check.due("the last again", x.service(77), 7);
        Check.due("its minutes", x.account(7, 8), 77);
        x = Check.house(100);
        x.hours(30);
        Check.due("a later service", x.service(50), 1);
        Check.due("is granted at once", x.account(1, 8), 50);
        Check.due("changes", x.count(9), 3);
    }

    private static void budget() {
        Check.promise("4 budget");
        ErrorBudgets x = Check.house(100, 200);
        Check.due("no such service", x.budget(2, 100), -1);
        Check.due("no such service", x.budget(-1, 9), -1);
        Check.due("no such service", x.budget(Integer.MIN_VALUE, 100), -1);
        Check.due("too little", x.budget(0, 9), -2);
        Check.due("too much", x.budget(0, 10001), -2);
        Check.due("changes", x.count(9), 2);
        Check.due("least", x.budget(0, 10), 100);
        Check.due("most", x.budget(0, 10000), 10);
        Check.due("back", x.budget(0, 300), 10000);
        Check.due("changes", x.count(9), 5);
        Check.due("budget", x.ofService(0, 0), 300);
        Check.due("minutes do not change", x.account(0, 8), 100);
        Check.due("nor what was granted", x.account(0, 0), 100);
        Check.due("the other one", x.ofService(1, 0), 200);
        x.hours(168);
        Check.due("granted with the next window", x.account(0, 0), 400);
        Check.due("carried over: 100 * 25 / 100", x.account(0, 8), 325);
        Check.due("lapsed", x.account(0, 7), 75);
        x.budget(0, 40);
        x.hours(168);
        Check.due("carried over by the new budget: 40 * 25 / 100", x.account(0, 8), 50);
        Check.due("lapsed", x.account(0, 7), 75 + 315);
    }

    private static void budgetFreezesNobody() {
        Check.promise("4 budget freezes nobody");
        ErrorBudgets x = Check.house(1000, 1000);
        x.outage(0, 600, 100);
        x.outage(0, 400, 100);
        Check.due("frozen", x.ofService(0, 1), 1);
        x.lend(1, 0, 100, 1);
        Check.due("100 are not more than 100", x.ofService(0, 1), 1);
        x.budget(0, 50);
        Check.due("still frozen", x.ofService(0, 1), 1);
        Check.due("least loan", x.leastLoan(0), 1);
        x.lend(1, 0, 1, 1);
        Check.due("thawed by a change", x.ofService(0, 1), 0);
        x.budget(0, 10000);
        Check.due("not frozen by a budget", x.ofService(0, 1), 0);
        Check.due("frozen how often", x.ofService(0, 10), 1);
        Check.due("lends by the new budget", x.lend(0, 1, 1, 1), -5);
        Check.due("reason", x.count(7), 3);
    }
}
