import java.util.function.ToIntFunction;

/** Promises 28 to 30: undo, save, restore. */
public final class UndoTest {
    public static void main(String[] args) {
        undo();
        undoBringsEverythingBack();
        undoLeavesPadReasonAndSlots();
        everyChangeIsRecorded();
        everyChangeIsUndone();
        save();
        restore();
        restoreLeavesPadReasonAndHistory();
        Check.end("UndoTest");
    }

    private static void undo() {
        Check.promise("28 undo");
        ErrorBudgets x = new ErrorBudgets();
        Check.due("nothing", x.undo(), -6);
        for (int hour = 1; hour <= 9; hour++) {
            x.hours(1);
            Check.due("changes", x.count(9), Math.min(hour, 6));
        }
        for (int left = 5; left >= 0; left--) {
            Check.due("undo", x.undo(), left);
            Check.due("the hour", x.count(0), 3 + left);
            Check.due("changes", x.count(9), left);
        }
        Check.due("nothing more", x.undo(), -6);
        Check.due("the hour", x.count(0), 3);
        x.hours(10);
        x.hours(10);
        Check.due("undo", x.undo(), 1);
        x.hours(100);
        Check.due("the hour", x.count(0), 113);
        Check.due("undo", x.undo(), 1);
        Check.due("undo", x.undo(), 0);
        Check.due("the hour", x.count(0), 3);
    }

    /** A house in which much is different behind some hours. */
    private static ErrorBudgets fullHouse() {
        ErrorBudgets x = Check.house(100, 1000, 50, 20);
        x.outage(3, 20, 100);
        x.release(3, 5, 1);
        x.plan(3, 9, 20, 5);
        x.plan(2, 9, 50, 5);
        x.outage(2, 60, 100);
        x.lend(1, 0, 100, 1);
        x.lend(1, 2, 20, 2);
        x.plan(0, 10, 50, 5);
        x.plan(1, 12, 20, 7);
        x.release(0, 30, 0);
        return x;
    }

    /** The full house behind the first ones of six changes. */
    private static ErrorBudgets changed(int changes) {
        ErrorBudgets x = fullHouse();
        for (int change = 0; change < changes; change++) {
            switch (change) {
                case 0: x.hours(150); break;
                case 1: x.set(1, 99); break;
                case 2: x.service(70); break;
                case 3: x.budget(0, 7777); break;
                case 4: x.outage(1, 600, 100); break;
                default: x.plan(0, 500, 5, 5); break;
            }
        }
        return x;
    }

    private static void undoBringsEverythingBack() {
        Check.promise("28 undo brings everything back");
        for (int left = 5; left >= 0; left--) {
            ErrorBudgets x = changed(6);
            for (int undone = 5; undone >= left; undone--) {
                Check.due("undo", x.undo(), undone);
            }
            Check.holds("state " + left, Check.picture(x).equals(Check.picture(changed(left))));
        }
        ErrorBudgets x = changed(1);
        x.undo();
        x.hours(150);
        Check.holds("the same again", Check.picture(x).equals(Check.picture(changed(1))));
    }

    private static void undoLeavesPadReasonAndSlots() {
        Check.promise("28 undo leaves the pad, the reason and the slots");
        ErrorBudgets x = Check.house(100);
        x.hours(7);
        x.save(1);
        x.outage(0, 100, 100);
        x.release(0, 5, 0);
        Check.type(x, "h5");
        x.undo();
        x.undo();
        Check.due("the hour", x.count(0), 0);
        Check.due("reason", x.count(7), 1);
        Check.due("pad", x.count(8), 2);
        Check.due("slot", x.restore(1), 7);
        Check.due("carried out", x.carryOut(), 1);
        Check.due("the hour", x.count(0), 12);
    }

    /** Looks at a change that was just made, and undoes it. */
    private static void isChange(String call, ErrorBudgets x, int answer, int due, int before) {
        Check.due(call, answer, due);
        Check.due(call + " is recorded", x.count(9), before + 1);
        Check.due(call + " is undone", x.undo(), before);
    }

    private static void everyChangeIsRecorded() {
        Check.promise("28 undo: every change is recorded, also if nothing is different");
        ErrorBudgets x = Check.house(100, 1000);
        x.lend(1, 0, 50, 1);
        x.plan(0, 5, 5, 5);
        x.undo();
        x.plan(0, 5, 5, 5);
        int before = x.count(9);
        Check.due("changes", before, 4);
        isChange("set", x, x.set(0, 168), 168, before);
        isChange("service", x, x.service(10), 2, before);
        isChange("budget", x, x.budget(0, 100), 100, before);
        isChange("outage", x, x.outage(0, 5, 5), 0, before);
        isChange("release", x, x.release(0, 5, 0), 0, before);
        isChange("lend", x, x.lend(1, 0, 5, 1), 1, before);
        isChange("repay", x, x.repay(0), 0, before);
        isChange("plan", x, x.plan(1, 5, 5, 5), 1, before);
        isChange("drop", x, x.drop(0), 0, before);
        isChange("hours", x, x.hours(5), 5, before);
        Check.due("save", x.save(0), 0);
        isChange("restore", x, x.restore(0), 0, before);
        isChange("carryOut", x, Check.carryOut(x, "h2;h3;h4"), 3, before);
        x.wipe();
        x.put('h');
        x.fault();
        x.leftIn(0, 100);
        x.undo();
        Check.due("others are no changes", x.count(9), before - 1);
        int[] errors = {
            x.set(9, 9), x.service(9), x.budget(9, 99), x.outage(9, 9, 9), x.release(9, 9, 0), x.lend(9, 0, 9, 9),
            x.repay(9), x.plan(9, 9, 9, 9), x.drop(9), x.hours(0), x.restore(1), x.carryOut(),
        };
        for (int error : errors) {
            Check.holds("an error", error < 0);
        }
        Check.due("errors are no changes", x.count(9), before - 1);
        Check.due("and cost no history", x.undo(), before - 2);
    }

    /** The state before the change stands nowhere in the history yet, so nothing noted earlier can stand in for it. */
    private static void isUndone(String call, ToIntFunction<ErrorBudgets> change) {
        ErrorBudgets x = Check.house(1000, 1000);
        x.save(0);
        x.lend(1, 0, 50, 1);
        x.plan(0, 5, 5, 5);
        String before = Check.picture(x);
        Check.holds(call, change.applyAsInt(x) >= 0);
        Check.holds(call + " changes something", !Check.picture(x).equals(before));
        Check.due(call + " is undone", x.undo(), 4);
        Check.holds(call + " is undone wholly", Check.picture(x).equals(before));
    }

    private static void everyChangeIsUndone() {
        Check.promise("28 undo: every change is undone");
        isUndone("set", x -> x.set(0, 12));
        isUndone("service", x -> x.service(10));
        isUndone("budget", x -> x.budget(0, 77));
        isUndone("outage", x -> x.outage(0, 600, 100));
        isUndone("release", x -> x.release(0, 5, 0));
        isUndone("lend", x -> x.lend(1, 0, 5, 1));
        isUndone("repay", x -> x.repay(0));
        isUndone("plan", x -> x.plan(1, 5, 5, 5));
        isUndone("drop", x -> x.drop(0));
        isUndone("hours", x -> x.hours(500));
        isUndone("carryOut", x -> Check.carryOut(x, "o1*5%5;h7"));
        isUndone("restore", x -> x.restore(0));
    }

    private static void save() {
        Check.promise("29 save");
        ErrorBudgets x = Check.house(100);
        Check.due("no such slot", x.save(2), -1);
        Check.due("no such slot", x.save(-1), -1);
        Check.due("no such slot", x.save(Integer.MIN_VALUE), -1);
        x.hours(7);
        Check.due("slot 0", x.save(0), 7);
        x.hours(7);
        Check.due("slot 1", x.save(1), 14);
        Check.due("no change", x.count(9), 3);
        Check.due("the hour", x.count(0), 14);
        x.hours(7);
        Check.due("overwrites", x.save(0), 21);
        x.hours(7);
        Check.due("slot 0", x.restore(0), 21);
        Check.due("slot 1", x.restore(1), 14);
    }

    private static void restore() {
        Check.promise("30 restore");
        ErrorBudgets x = fullHouse();
        Check.due("nothing saved", x.restore(0), -1);
        Check.due("nothing saved", x.restore(1), -1);
        Check.due("no such slot", x.restore(2), -1);
        Check.due("no such slot", x.restore(-1), -1);
        String saved = Check.picture(x);
        x.save(1);
        Check.due("nothing saved there", x.restore(0), -1);
        x.hours(500);
        x.set(0, 12);
        x.service(20);
        x.outage(4, 30, 100);
        Check.due("restored", x.restore(1), 0);
        Check.holds("as saved", Check.picture(x).equals(saved));
        Check.due("undone", x.undo(), 5);
        Check.due("as before", x.account(4, 8), -10);
        x.restore(1);
        x.hours(9);
        Check.due("the slot keeps it", x.restore(1), 0);
        Check.holds("as saved", Check.picture(x).equals(saved));
    }

    private static void restoreLeavesPadReasonAndHistory() {
        Check.promise("30 restore leaves the pad, the reason, the history and the slots");
        ErrorBudgets x = Check.house(100);
        x.save(0);
        x.hours(3);
        x.save(1);
        x.outage(0, 100, 100);
        x.release(0, 1, 0);
        Check.type(x, "h1;h1");
        Check.due("restored", x.restore(0), 0);
        Check.due("reason", x.count(7), 1);
        Check.due("pad", x.count(8), 5);
        Check.due("history", x.count(9), 4);
        Check.due("the other slot", x.restore(1), 3);
        Check.due("history", x.undo(), 4);
        Check.due("history", x.undo(), 3);
        Check.due("frozen again", x.ofService(0, 1), 1);
        Check.due("history", x.undo(), 2);
        Check.due("history", x.undo(), 1);
        Check.due("history", x.undo(), 0);
        Check.due("no services", x.count(3), 0);
        Check.due("restored", x.restore(1), 3);
        Check.due("services", x.count(3), 1);
    }
}
