/** The sentences about undo and saved states that name an edge: six and one more, none, what stays, what is kept. */
public final class UndoEdgesTest {
    private static final int NO_SUCH = -1, BAD_VALUE = -2, BAD_TEXT = -3, NONE = -6;

    public static void main(String[] args) {
        sixStates();
        oneMoreDropsTheOldest();
        undoAndGoOn();
        errorsAtTheFullHistory();
        looksAreNoChanges();
        everythingIsBack();
        everythingButThePadAndTheReason();
        slots();
        slotsStay();
        slotsOverwritten();
        restoreIsAChange();
        restoreOfAnEmptyHouse();
        Check.end("UndoEdgesTest");
    }

    private static void sixStates() {
        Check.promise("28 a history of at most 6 states is kept");
        for (int changes = 0; changes <= 8; changes++) {
            ErrorBudgets x = new ErrorBudgets();
            for (int change = 0; change < changes; change++) {
                x.hours(1);
            }
            int kept = Math.min(6, changes);
            Check.due("changes", x.count(9), kept);
            for (int left = kept - 1; left >= 0; left--) {
                Check.due("undo of " + changes, x.undo(), left);
                Check.due("the hour", x.count(0), changes - kept + left);
            }
            Check.due("none to undo", x.undo(), NONE);
            Check.due("none to undo again", x.undo(), NONE);
            Check.due("the hour", x.count(0), changes - kept);
            Check.due("changes", x.count(9), 0);
        }
    }

    private static void oneMoreDropsTheOldest() {
        Check.promise("28 when one more is recorded, the oldest one is dropped");
        ErrorBudgets x = new ErrorBudgets();
        for (int change = 1; change <= 50; change++) {
            x.hours(change);
        }
        long hour = 50 * 51 / 2;
        for (int change = 50; change > 44; change--) {
            hour -= change;
            Check.due("undo", x.undo(), change - 45);
            Check.due("the hour", x.count(0), hour);
        }
        Check.due("none to undo", x.undo(), NONE);
    }

    private static void undoAndGoOn() {
        Check.promise("28 undo, and changes then");
        ErrorBudgets x = new ErrorBudgets();
        for (int round = 1; round <= 20; round++) {
            x.hours(100);
            x.hours(10);
            Check.due("undo", x.undo(), Math.min(6, round) == 6 ? 5 : round);
            Check.due("the hour", x.count(0), 100 * round);
        }
        // After 20 rounds: the last record was undone, so five states are left.
        for (int left = 4; left >= 0; left--) {
            Check.due("undo", x.undo(), left);
            Check.due("the hour", x.count(0), 1500 + 100 * left);
        }
        Check.due("none to undo", x.undo(), NONE);
        x.hours(1);
        Check.due("what was undone does not come back", x.undo(), 0);
        Check.due("the hour", x.count(0), 1500);
    }

    private static void errorsAtTheFullHistory() {
        Check.promise("28 a method that returns an error records nothing");
        ErrorBudgets x = Check.house(100, 100);
        for (int change = 0; change < 6; change++) {
            x.hours(1);
        }
        x.outage(1, 100, 100);
        Check.type(x, "h1;h");
        int[] errors = {
            x.set(8, 0), x.set(0, 11), x.service(9), x.budget(2, 10), x.budget(0, 9), x.outage(2, 1, 1), x.outage(0, 0, 1),
            x.release(2, 1, 0), x.release(0, 201, 0), x.release(1, 1, 0), x.lend(0, 0, 1, 1), x.lend(0, 1, 0, 1),
            x.lend(1, 0, 1, 1), x.repay(0), x.plan(2, 9, 1, 0), x.plan(0, 6, 1, 0), x.drop(0), x.hours(0), x.hours(1001),
            x.carryOut(), x.restore(0), x.restore(2),
        };
        int[] due = {-2, -2, -2, -1, -2, -1, -2, -1, -2, -5, -1, -2, -5, -1, -1, -2, -1, -2, -2, -3, -1, -1};
        for (int i = 0; i < due.length; i++) {
            Check.due("the error " + i, errors[i], due[i]);
        }
        Check.due("changes", x.count(9), 6);
        Check.due("undo", x.undo(), 5);
        Check.due("not frozen", x.ofService(1, 1), 0);
        for (int left = 4; left >= 0; left--) {
            Check.due("undo", x.undo(), left);
            Check.due("the hour", x.count(0), left + 1);
        }
    }

    private static void looksAreNoChanges() {
        Check.promise("28 other methods record nothing");
        ErrorBudgets x = Check.house(100);
        x.save(0);
        x.save(1);
        Check.type(x, "h1");
        x.fault();
        x.wipe();
        x.put('h');
        x.count(0);
        x.ofService(0, 0);
        x.account(0, 0);
        x.leftIn(0, 1000);
        x.frozenIn(0);
        x.thawsIn(0);
        x.bestLender(0, 1);
        x.leastLoan(0);
        x.safeSize(0);
        Check.due("changes", x.count(9), 1);
        Check.due("carryOut of a fault", x.carryOut(), BAD_TEXT);
        Check.due("changes", x.count(9), 1);
        Check.due("undo", x.undo(), 0);
        Check.due("services", x.count(3), 0);
        Check.due("the pad", x.count(8), 1);
    }

    private static void everythingIsBack() {
        Check.promise("28 everything is as it was before");
        ErrorBudgets x = Check.house(100, 1000);
        x.set(5, 0);
        x.outage(0, 100, 100);
        x.plan(0, 5, 1, 0);
        x.plan(1, 168, 3, 0);
        x.lend(1, 0, 5, 1);
        x.release(0, 1, 1);
        String before = Check.picture(x);
        // A window begins, a loan is paid, plans are done and dropped, one thaws, exemptions come.
        x.hours(200);
        Check.due("undo", x.undo(), 5);
        Check.holds("as before", Check.picture(x).equals(before));
        Check.due("the window", x.count(1), 0);
        Check.due("exemptions", x.ofService(0, 2), 0);
        Check.due("dropped", x.ofService(0, 9), 0);
        Check.due("plans", x.count(6), 2);
        Check.due("loans", x.count(5), 1);
        x.hours(167);
        Check.due("not yet", x.count(1), 0);
        x.hours(1);
        Check.due("a window as it comes", x.count(1), 1);
    }

    private static void everythingButThePadAndTheReason() {
        Check.promise("28, 30 except the pad, the reason");
        ErrorBudgets x = Check.house(100);
        x.save(0);
        x.set(7, 5);
        Check.type(x, "r0*5;h1");
        x.outage(0, 100, 100);
        Check.due("refused", x.release(0, 1, 0), -5);
        Check.due("undo", x.undo(), 2);
        Check.due("the reason", x.count(7), 1);
        Check.due("the pad", x.count(8), 7);
        Check.due("restore", x.restore(0), 0);
        Check.due("the reason", x.count(7), 1);
        Check.due("the pad", x.count(8), 7);
        Check.due("the setting", x.count(17), 1);
        Check.due("carried out", x.carryOut(), 2);
        Check.due("undo", x.undo(), 3);
        Check.due("the pad stays empty", x.count(8), 0);
        Check.due("undo of restore", x.undo(), 2);
        Check.due("the setting", x.count(17), 5);
    }

    private static void slots() {
        Check.promise("29, 30 slot 0 or 1; nothing was saved in it");
        ErrorBudgets x = new ErrorBudgets();
        for (int slot : new int[] {-1, 2, 3, 256, -256, Integer.MIN_VALUE, Integer.MAX_VALUE}) {
            Check.due("save", x.save(slot), NO_SUCH);
            Check.due("restore", x.restore(slot), NO_SUCH);
        }
        for (int slot = 0; slot < 2; slot++) {
            x = new ErrorBudgets();
            Check.due("nothing saved", x.restore(0), NO_SUCH);
            Check.due("nothing saved", x.restore(1), NO_SUCH);
            Check.due("changes", x.count(9), 0);
            x.hours(5);
            Check.due("save", x.save(slot), 5);
            Check.due("nothing saved in the other one", x.restore(1 - slot), NO_SUCH);
            x.hours(5);
            Check.due("restore", x.restore(slot), 5);
            Check.due("changes", x.count(9), 3);
        }
    }

    private static void slotsStay() {
        Check.promise("30 restores what was saved in a slot, which keeps it");
        ErrorBudgets x = Check.house(100, 1000);
        x.lend(1, 0, 50, 1);
        x.plan(0, 9, 150, 0);
        x.save(0);
        String saved = Check.picture(x);
        x.hours(500);
        x.save(1);
        String later = Check.picture(x);
        for (int round = 0; round < 2; round++) {
            x.restore(0);
            Check.holds("as saved", Check.picture(x).equals(saved));
            x.hours(20);
            x.repay(0);
            x.service(10);
            x.restore(1);
            Check.holds("as saved later", Check.picture(x).equals(later));
            x.set(0, 12);
            x.drop(0);
            x.outage(0, 600, 100);
        }
        while (x.undo() >= 0) {
            Check.due("slots are not undone", x.save(0) >= 0 ? 1 : 0, 1);
        }
        Check.due("the other slot stays", x.restore(1), 500);
    }

    private static void slotsOverwritten() {
        Check.promise("29 overwrites what was saved there");
        ErrorBudgets x = Check.house(100, 100, 100);
        x.plan(0, 900, 1, 0);
        x.plan(0, 901, 2, 0);
        x.lend(0, 1, 5, 9);
        x.save(0);
        x.drop(0);
        x.repay(0);
        x.hours(3);
        Check.due("save", x.save(0), 3);
        String saved = Check.picture(x);
        x.plan(1, 500, 5, 5);
        x.lend(1, 2, 5, 5);
        x.hours(900);
        Check.due("restore", x.restore(0), 3);
        Check.holds("what was saved last", Check.picture(x).equals(saved));
        Check.due("plans", x.count(6), 1);
        Check.due("the plan", x.ofPlan(0, 1), 901);
        Check.due("loans", x.count(5), 0);
        Check.due("undo does not bring the older one back", x.undo(), 5);
        Check.due("restore", x.restore(0), 3);
    }

    private static void restoreIsAChange() {
        Check.promise("30 this is a change");
        ErrorBudgets x = new ErrorBudgets();
        x.save(0);
        for (int change = 1; change <= 7; change++) {
            Check.due("restore", x.restore(0), 0);
            Check.due("changes", x.count(9), Math.min(6, change));
        }
        x.hours(9);
        x.restore(0);
        Check.due("the hour", x.count(0), 0);
        Check.due("undo", x.undo(), 5);
        Check.due("the hour", x.count(0), 9);
        Check.due("undo", x.undo(), 4);
        Check.due("the hour", x.count(0), 0);
    }

    private static void restoreOfAnEmptyHouse() {
        Check.promise("30 of a house without services");
        ErrorBudgets x = new ErrorBudgets();
        x.save(1);
        for (int service = 0; service < 8; service++) {
            x.service(10 + service);
            x.outage(service, 600, 100);
            x.plan(service, 5, 1, 0);
        }
        x.restore(1);
        Check.due("no services", x.count(3), 0);
        Check.due("none is frozen", x.count(4), 0);
        Check.due("no plans", x.count(6), 0);
        Check.due("no such service", x.outage(0, 1, 1), NO_SUCH);
        Check.due("bad", x.service(0), BAD_VALUE);
        Check.due("a new one", x.service(55), 0);
        Check.due("its minutes", x.account(0, 8), 55);
        for (int what = 1; what <= 7; what++) {
            Check.due("its account " + what, x.account(0, what), 0);
        }
        for (int what = 3; what <= 10; what++) {
            Check.due("its number " + what, x.ofService(0, what), 0);
        }
        Check.due("not frozen", x.ofService(0, 1), 0);
        Check.due("exemptions", x.ofService(0, 2), 1);
    }
}
