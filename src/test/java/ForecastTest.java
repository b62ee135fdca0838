/** Promises 17 to 23: leftIn, frozenIn, thawsIn, doneAt, bestLender, leastLoan, safeSize. */
public final class ForecastTest {
    public static void main(String[] args) {
        leftIn();
        frozenIn();
        thawsIn();
        doneAt();
        doneAtFollowsAPlan();
        bestLender();
        leastLoan();
        safeSize();
        Check.end("ForecastTest");
    }

    private static void leftIn() {
        Check.promise("17 leftIn");
        ErrorBudgets x = Check.house(100, 1000);
        Check.due("no such service", x.leftIn(2, 1), -1);
        Check.due("no such service", x.leftIn(-1, 0), -1);
        Check.due("hours", x.leftIn(0, 0), -2);
        Check.due("hours", x.leftIn(0, 1001), -2);
        Check.due("hours", x.leftIn(0, Integer.MIN_VALUE), -2);
        Check.due("before the window", x.leftIn(0, 167), 100);
        Check.due("with the window", x.leftIn(0, 168), 125);
        x.lend(1, 0, 50, 1);
        x.plan(0, 170, 40, 5);
        Check.due("25 and 100, without 55", x.leftIn(0, 168), 70);
        Check.due("not yet", x.leftIn(0, 169), 70);
        Check.due("behind the release", x.leftIn(0, 170), 30);
        Check.due("the lender: 250, 1000 and 55", x.leftIn(1, 168), 1292);
        Check.due("the hour", x.count(0), 0);
        x.hours(170);
        Check.due("as it came", x.account(0, 8), 30);
        x.outage(0, 31, 100);
        Check.due("-1", x.leftIn(0, 1), -1);
        x.outage(0, 600, 100);
        Check.due("below 0", x.leftIn(0, 1), -601);
        Check.due("the farthest: at the hour 1170, behind five windows", x.leftIn(0, 1000), -101);
    }

    private static void frozenIn() {
        Check.promise("18 frozenIn");
        ErrorBudgets x = Check.house(100, 1000);
        Check.due("no such service", x.frozenIn(2), -1);
        Check.due("no such service", x.frozenIn(-1), -1);
        Check.due("never", x.frozenIn(0), -6);
        x.plan(0, 30, 100, 5);
        Check.due("by a plan", x.frozenIn(0), 30);
        x.hours(29);
        Check.due("by the next hour", x.frozenIn(0), 1);
        x.hours(1);
        Check.due("now", x.frozenIn(0), 0);
        x = Check.house(100, 1000);
        x.set(1, 0);
        x.lend(1, 0, 100, 2);
        Check.due("by paying back", x.frozenIn(0), 336);
        // The plan freezes it behind the grant of 13 minutes, and the next one thaws it.
        x = Check.house(10);
        x.plan(0, 1000, 200, 0);
        Check.due("within 1000 hours", x.frozenIn(0), 1000);
        x = Check.house(10);
        x.plan(0, 1001, 200, 0);
        Check.due("not within 1000 hours", x.frozenIn(0), -6);
        // In one hour the window lets it go to 0 and its lender pays: behind the hour it is not frozen.
        x = Check.house(100, 1000);
        x.set(1, 0);
        x.set(2, 0);
        x.lend(1, 0, 100, 1);
        x.lend(0, 1, 50, 1);
        Check.due("only behind a whole hour", x.frozenIn(0), -6);
        x.hours(168);
        Check.due("though it became frozen", x.ofService(0, 10), 1);
        Check.due("and thawed", x.ofService(0, 1), 0);
    }

    private static void thawsIn() {
        Check.promise("19 thawsIn");
        ErrorBudgets x = Check.house(100, 1000);
        Check.due("no such service", x.thawsIn(2), -1);
        Check.due("no such service", x.thawsIn(-1), -1);
        Check.due("now", x.thawsIn(0), 0);
        x.outage(0, 100, 100);
        Check.due("with the window", x.thawsIn(0), 168);
        x.hours(100);
        Check.due("with the window", x.thawsIn(0), 68);
        x.outage(0, 90, 100);
        Check.due("10 are not more than 10", x.thawsIn(0), 236);
        x.outage(0, 600, 100);
        Check.due("never within 1000 hours", x.thawsIn(0), -6);
        // The window's minutes thaw it, but a waiting plan freezes it in the same hour.
        x = Check.house(100);
        x.outage(0, 100, 100);
        x.plan(0, 150, 100, 0);
        Check.due("behind a whole hour", x.thawsIn(0), 336);
        x = Check.house(10);
        x.outage(0, 64, 100);
        x.hours(8);
        Check.due("-54 and six times 10", x.thawsIn(0), 1000);
        x = Check.house(10);
        x.outage(0, 64, 100);
        x.hours(7);
        Check.due("not within 1000 hours", x.thawsIn(0), -6);
    }

    private static void doneAt() {
        Check.promise("20 doneAt");
        ErrorBudgets x = Check.house(100);
        Check.due("no such plan", x.doneAt(0), -1);
        x.plan(0, 7, 10, 0);
        Check.due("no such plan", x.doneAt(1), -1);
        Check.due("no such plan", x.doneAt(-1), -1);
        Check.due("in its hour", x.doneAt(0), 7);
        x.hours(6);
        Check.due("the hour, not how many", x.doneAt(0), 7);
        x.outage(0, 100, 100);
        Check.due("dropped", x.doneAt(0), -6);
        x.set(5, 161);
        Check.due("not dropped before the window", x.doneAt(0), 168);
        x.set(5, 160);
        Check.due("dropped an hour before", x.doneAt(0), -6);
        x = Check.house(100);
        x.plan(0, 1000, 10, 0);
        x.plan(0, 1001, 10, 0);
        Check.due("the last hour", x.doneAt(0), 1000);
        Check.due("too late", x.doneAt(1), -6);
        x.hours(1);
        Check.due("not too late any more", x.doneAt(1), 1001);
        x = Check.house(10);
        x.set(5, 300);
        x.outage(0, 600, 100);
        x.plan(0, 800, 1, 0);
        Check.due("neither done nor dropped", x.doneAt(0), -6);
    }

    private static void doneAtFollowsAPlan() {
        Check.promise("20 doneAt follows a plan whose number decreases");
        ErrorBudgets x = Check.house(100, 100, 10);
        x.outage(2, 10, 100);
        x.plan(0, 1, 1, 0);
        x.plan(1, 9, 100, 0);
        x.plan(0, 2, 1, 0);
        x.plan(2, 3, 1, 0);
        x.plan(1, 20, 3, 0);
        x.plan(1, 9, 2, 9);
        x.plan(0, 300, 4, 5);
        x.set(5, 150);
        int[] due = {1, 9, 2, -6, 168, 9, 300};
        for (int plan = 0; plan < 7; plan++) {
            Check.due("doneAt(" + plan + ")", x.doneAt(plan), due[plan]);
        }
        Check.due("plans", x.count(6), 7);
        for (int plan = 6; plan >= 0; plan--) {
            Check.due("doneAt(" + plan + ") again", x.doneAt(plan), due[plan]);
        }
    }

    private static void bestLender() {
        Check.promise("21 bestLender");
        ErrorBudgets x = Check.house(100, 500, 500, 400, 10);
        Check.due("no such service", x.bestLender(5, 1), -1);
        Check.due("no such service", x.bestLender(-1, 0), -1);
        Check.due("minutes", x.bestLender(0, 0), -2);
        Check.due("minutes", x.bestLender(0, 5001), -2);
        Check.due("the lowest number of two", x.bestLender(0, 100), 1);
        Check.due("not itself", x.bestLender(1, 100), 2);
        Check.due("the first one", Check.house(900, 500, 500).bestLender(2, 100), 0);
        x.outage(1, 1, 1);
        Check.due("the most left", x.bestLender(0, 100), 2);
        x.budget(2, 5000);
        Check.due("which has enough", x.bestLender(0, 100), 1);
        x.outage(1, 500, 100);
        Check.due("which is not frozen", x.bestLender(0, 100), 3);
        Check.due("359: 41 left are more than 40", x.bestLender(0, 359), 3);
        Check.due("360: 40 left are not", x.bestLender(0, 360), -6);
        Check.due("a frozen borrower", x.bestLender(1, 100), 3);
        x.set(6, 0);
        Check.due("no loans", x.bestLender(0, 1), -6);
        x.set(6, 1);
        Check.due("one", x.lend(3, 0, 1, 1), 0);
        Check.due("no more loans", x.bestLender(0, 1), -6);
        Check.due("others may", x.bestLender(4, 1), 3);
        Check.due("no reason", x.count(7), 0);
        Check.due("alone", Check.house(100).bestLender(0, 1), -6);
    }

    private static void leastLoan() {
        Check.promise("22 leastLoan");
        ErrorBudgets x = Check.house(105, 1000);
        Check.due("no such service", x.leastLoan(2), -1);
        Check.due("no such service", x.leastLoan(-1), -1);
        Check.due("not frozen", x.leastLoan(0), 0);
        x.outage(0, 125, 100);
        Check.due("from -20 to 11", x.leastLoan(0), 31);
        x.lend(1, 0, 30, 1);
        Check.due("one more", x.leastLoan(0), 1);
        x.set(3, 0);
        Check.due("1 at least", x.leastLoan(0), 1);
        x.set(3, 100);
        Check.due("from 10 to 106", x.leastLoan(0), 96);
        x.lend(1, 0, 95, 1);
        Check.due("still frozen", x.ofService(0, 1), 1);
        x.set(3, 10);
        x.lend(1, 0, 1, 1);
        Check.due("thawed", x.leastLoan(0), 0);
    }

    private static void safeSize() {
        Check.promise("23 safeSize");
        ErrorBudgets x = Check.house(202);
        Check.due("no such service", x.safeSize(1), -1);
        Check.due("no such service", x.safeSize(-1), -1);
        Check.due("most", x.safeSize(0), 200);
        x.outage(0, 1, 1);
        Check.due("200 of 201", x.safeSize(0), 200);
        x.outage(0, 1, 1);
        Check.due("199 of 200", x.safeSize(0), 199);
        x.outage(0, 198, 100);
        Check.due("1 of 2", x.safeSize(0), 1);
        x.outage(0, 1, 1);
        Check.due("none of 1", x.safeSize(0), -6);
        x.outage(0, 1, 1);
        Check.due("none of 0", x.safeSize(0), -6);
        x = Check.house(100, 1000);
        x.outage(0, 100, 100);
        x.lend(1, 0, 10, 1);
        Check.due("frozen with 10", x.safeSize(0), -6);
    }
}
