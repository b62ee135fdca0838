/** Promises 9 and 10: plan, drop. */
public final class PlansTest {
    public static void main(String[] args) {
        plan();
        planHasALimit();
        drop();
        dropIsNotCounted();
        Check.end("PlansTest");
    }

    private static void plan() {
        Check.promise("9 plan");
        ErrorBudgets x = Check.house(100, 100);
        Check.due("no such service", x.plan(2, 5, 5, 5), -1);
        Check.due("no such service", x.plan(-1, -5, -5, -5), -1);
        Check.due("hour", x.plan(0, 0, 5, 5), -2);
        Check.due("hour", x.plan(0, -1, 5, 5), -2);
        Check.due("hour", x.plan(0, 2001, 5, 5), -2);
        Check.due("hour", x.plan(0, Integer.MIN_VALUE, 5, 5), -2);
        Check.due("hour", x.plan(0, Integer.MAX_VALUE, 5, 5), -2);
        Check.due("size", x.plan(0, 5, 0, 5), -2);
        Check.due("size", x.plan(0, 5, 201, 5), -2);
        Check.due("priority", x.plan(0, 5, 5, -1), -2);
        Check.due("priority", x.plan(0, 5, 5, 10), -2);
        Check.due("changes", x.count(9), 2);
        Check.due("least", x.plan(0, 1, 1, 0), 0);
        Check.due("most", x.plan(1, 2000, 200, 9), 1);
        Check.due("changes", x.count(9), 4);
        Check.due("nothing is spent", x.account(0, 8), 100);
        Check.due("plans", x.count(6), 2);
        Check.due("service", x.ofPlan(1, 0), 1);
        Check.due("hour", x.ofPlan(1, 1), 2000);
        Check.due("size", x.ofPlan(1, 2), 200);
        Check.due("priority", x.ofPlan(1, 3), 9);
        x.hours(10);
        Check.due("the present hour", x.plan(0, 10, 5, 5), -2);
        Check.due("too late", x.plan(0, 2011, 5, 5), -2);
        Check.due("the last hour", x.plan(0, 2010, 5, 5), 1);
        Check.due("the next hour", x.plan(0, 11, 5, 5), 2);
        x = Check.house(100);
        x.outage(0, 100, 100);
        Check.due("of a frozen service", x.plan(0, 5, 5, 5), 0);
    }

    private static void planHasALimit() {
        Check.promise("9 plan has a limit of 30 plans");
        ErrorBudgets x = Check.house(100);
        for (int plan = 0; plan < 30; plan++) {
            Check.due("a plan", x.plan(0, 5, 1, 5), plan);
        }
        Check.due("one more", x.plan(0, 5, 1, 5), -4);
        Check.due("bad before too many", x.plan(0, 5, 0, 5), -2);
        Check.due("no such service before too many", x.plan(1, 5, 1, 5), -1);
        Check.due("plans", x.count(6), 30);
        x.drop(0);
        Check.due("again", x.plan(0, 5, 1, 5), 29);
        x.hours(5);
        Check.due("all done", x.ofService(0, 8), 30);
        Check.due("none left", x.count(6), 0);
        Check.due("again from 0", x.plan(0, 6, 1, 5), 0);
    }

    private static void drop() {
        Check.promise("10 drop");
        ErrorBudgets x = Check.house(100);
        Check.due("none", x.drop(0), -1);
        x.plan(0, 5, 1, 0);
        x.plan(0, 6, 2, 1);
        x.plan(0, 7, 3, 2);
        Check.due("no such plan", x.drop(3), -1);
        Check.due("no such plan", x.drop(-1), -1);
        Check.due("no such plan", x.drop(Integer.MIN_VALUE), -1);
        Check.due("changes", x.count(9), 4);
        Check.due("in the middle", x.drop(1), 2);
        Check.due("changes", x.count(9), 5);
        Check.due("the first stays", x.ofPlan(0, 2), 1);
        Check.due("the later one moves", x.ofPlan(1, 2), 3);
        Check.due("with its hour", x.ofPlan(1, 1), 7);
        Check.due("with its priority", x.ofPlan(1, 3), 2);
        Check.due("no third", x.ofPlan(2, 2), -1);
        Check.due("the first", x.drop(0), 1);
        Check.due("the last", x.drop(0), 0);
        x.hours(10);
        Check.due("nothing is done", x.ofService(0, 8), 0);
        x.undo();
        x.undo();
        Check.due("undone", x.count(6), 1);
        x.hours(10);
        Check.due("one is done", x.account(0, 4), 3);
    }

    private static void dropIsNotCounted() {
        Check.promise("10 drop is not counted as dropped by an hour");
        ErrorBudgets x = Check.house(100);
        x.plan(0, 5, 1, 0);
        x.drop(0);
        Check.due("dropped by an hour", x.ofService(0, 9), 0);
    }
}
