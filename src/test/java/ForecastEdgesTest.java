/** The sentences about forecasts that name an edge: the first and the last hour, none, the most, the fewest, nobody. */
public final class ForecastEdgesTest {
    private static final int NO_SUCH = -1, BAD_VALUE = -2, NONE = -6;

    public static void main(String[] args) {
        leftInIsWhatComes();
        leftInTheFirstAndTheLastHour();
        frozenInTheFirstAndTheLastHour();
        thawsInTheFirstAndTheLastHour();
        onlyBehindAWholeHour();
        doneInTheFirstAndTheLastHour();
        doneOrDropped();
        doneWithManyPlans();
        bestOfManyLenders();
        bestLenderWithHisLast();
        nobodyLends();
        leastLoanThaws();
        safeSizeIsSafe();
        forecastsKeepThePadAndTheHistory();
        Check.end("ForecastEdgesTest");
    }

    private static long left(ErrorBudgets x, int service) {
        return x.account(service, 8);
    }

    private static void spend(ErrorBudgets x, int service, int minutes) {
        for (int rest = minutes; rest > 0; rest -= 600) {
            x.outage(service, Math.min(rest, 600), 100);
        }
    }

    /** Short windows, loans, plans that are done, wait and are dropped. */
    private static ErrorBudgets busyHouse() {
        ErrorBudgets x = Check.house(100, 300, 50, 10);
        x.set(0, 24);
        x.set(5, 30);
        x.hours(5);
        x.lend(1, 0, 120, 1);
        x.lend(1, 3, 100, 2);
        x.lend(0, 2, 90, 3);
        x.plan(0, 20, 90, 1);
        x.plan(0, 20, 60, 2);
        x.plan(2, 25, 200, 5);
        x.plan(2, 26, 10, 5);
        x.plan(3, 6, 50, 0);
        x.plan(3, 1005, 50, 0);
        return x;
    }

    private static void leftInIsWhatComes() {
        Check.promise("17 the minutes that a service would have left after some hours");
        ErrorBudgets x = busyHouse();
        x.save(0);
        for (int hours : new int[] {1, 2, 14, 15, 18, 19, 20, 21, 42, 43, 44, 200, 500, 999, 1000}) {
            long[] due = new long[4];
            for (int service = 0; service < 4; service++) {
                due[service] = x.leftIn(service, hours);
            }
            Check.due("hours", x.hours(hours), 5 + hours);
            for (int service = 0; service < 4; service++) {
                Check.due("leftIn(" + service + ", " + hours + ")", left(x, service), due[service]);
            }
            x.restore(0);
        }
    }

    private static void leftInTheFirstAndTheLastHour() {
        Check.promise("17 1 to 1000 hours");
        ErrorBudgets x = Check.house(100);
        x.set(1, 0);
        x.plan(0, 1, 7, 0);
        x.plan(0, 1000, 11, 0);
        Check.due("0", x.leftIn(0, 0), BAD_VALUE);
        Check.due("1", x.leftIn(0, 1), 93);
        Check.due("167", x.leftIn(0, 167), 93);
        Check.due("168", x.leftIn(0, 168), 100);
        Check.due("999", x.leftIn(0, 999), 100);
        Check.due("1000", x.leftIn(0, 1000), 89);
        Check.due("1001", x.leftIn(0, 1001), BAD_VALUE);
        spend(x, 0, 101);
        Check.due("below 0, -1", x.leftIn(0, 1), -1);
        spend(x, 0, 1);
        Check.due("below 0, -2", x.leftIn(0, 167), -2);
        Check.due("no such service", x.leftIn(1, 1), NO_SUCH);
    }

    private static void frozenInTheFirstAndTheLastHour() {
        Check.promise("18 NONE if it would not be within 1000 hours");
        ErrorBudgets x = new ErrorBudgets();
        Check.due("no service", x.frozenIn(0), NO_SUCH);
        for (int hour : new int[] {1, 2, 999, 1000, 1001, 1002}) {
            x = Check.house(10, 10);
            x.plan(0, hour, 100, 0);
            Check.due("in the hour " + hour, x.frozenIn(0), hour <= 1000 ? hour : NONE);
            Check.due("the other one", x.frozenIn(1), NONE);
            x.hours(1);
            Check.due("an hour later", x.frozenIn(0), hour <= 1001 ? hour - 1 : NONE);
        }
        x = Check.house(100);
        x.outage(0, 100, 100);
        Check.due("now, though it thaws with the window", x.frozenIn(0), 0);
        x = Check.house(10);
        x.set(0, 12);
        x.set(1, 0);
        x.plan(0, 5, 10, 0);
        Check.due("the first time, though it thaws again", x.frozenIn(0), 5);
        x = Check.house(10);
        x.plan(0, 5, 9, 0);
        Check.due("1 left is not frozen", x.frozenIn(0), NONE);
    }

    private static void thawsInTheFirstAndTheLastHour() {
        Check.promise("19 NONE if it would be frozen for 1000 hours");
        ErrorBudgets x = new ErrorBudgets();
        Check.due("no service", x.thawsIn(0), NO_SUCH);
        // It has -10 minutes; of windows of 500 hours, the second one thaws it.
        for (int passed : new int[] {1, 499, 500}) {
            x = Check.house(10);
            x.set(0, 500);
            spend(x, 0, 20);
            x.hours(passed);
            Check.due("passed " + passed, x.thawsIn(0), 1000 - passed);
        }
        x = Check.house(10);
        x.set(0, 500);
        spend(x, 0, 20);
        Check.due("just 1000 hours", x.thawsIn(0), 1000);
        spend(x, 0, 9);
        Check.due("1 minute with the second window is not more than 1", x.thawsIn(0), NONE);
        x.hours(499);
        Check.due("1001 hours", x.thawsIn(0), NONE);
        x.hours(1);
        Check.due("1000 hours", x.thawsIn(0), 1000);
        x.hours(999);
        Check.due("an hour", x.thawsIn(0), 1);
        x.hours(1);
        Check.due("now", x.thawsIn(0), 0);
        Check.due("no such service", x.thawsIn(1), NO_SUCH);
        x.plan(0, 1501, 200, 0);
        Check.due("now, though it will be frozen", x.thawsIn(0), 0);
    }

    private static void onlyBehindAWholeHour() {
        Check.promise("18, 19 behind a whole hour");
        // In each window 0 pays all that it has, and gets something back then.
        ErrorBudgets x = Check.house(100, 1000);
        x.set(1, 0);
        x.set(2, 0);
        x.set(4, 0);
        x.set(6, 10);
        x.lend(1, 0, 300, 1);
        for (int loan = 1; loan <= 5; loan++) {
            x.lend(0, 1, 30, loan);
        }
        Check.due("frozen and thawed in one hour", x.frozenIn(0), NONE);
        x.hours(1000);
        Check.due("how often", x.ofService(0, 10), 3);
        // The window thaws it, a plan freezes it in the same hour, each time.
        x = Check.house(100);
        x.set(5, 300);
        spend(x, 0, 100);
        for (int window = 1; window <= 5; window++) {
            x.plan(0, 168 * window, 100, 0);
        }
        Check.due("thawed and frozen in one hour", x.thawsIn(0), NONE);
        x.drop(4);
        Check.due("but for the fifth window", x.thawsIn(0), 840);
    }

    private static void doneInTheFirstAndTheLastHour() {
        Check.promise("20 NONE if it would not be done within 1000 hours");
        ErrorBudgets x = new ErrorBudgets();
        Check.due("no plan", x.doneAt(0), NO_SUCH);
        x = Check.house(100);
        x.hours(10);
        int[] hours = {11, 12, 1009, 1010, 1011, 2010};
        for (int hour : hours) {
            x.plan(0, hour, 1, 0);
        }
        for (int plan = 0; plan < 6; plan++) {
            Check.due("hour " + hours[plan], x.doneAt(plan), hours[plan] <= 1010 ? hours[plan] : NONE);
        }
        Check.due("no such plan", x.doneAt(6), NO_SUCH);
        x.hours(1);
        Check.due("the first one is gone", x.doneAt(5), NO_SUCH);
        Check.due("now within 1000 hours", x.doneAt(3), 1011);
        // One that waits is done with the window.
        x = Check.house(100);
        x.set(5, 300);
        spend(x, 0, 100);
        x.plan(0, 1, 1, 0);
        Check.due("it waits", x.doneAt(0), 168);
        x.hours(167);
        Check.due("in the next hour, its own was long ago", x.doneAt(0), 168);
    }

    private static void doneOrDropped() {
        Check.promise("20 NONE if it would be dropped");
        for (int patience : new int[] {0, 1, 67, 68, 69, 300}) {
            ErrorBudgets x = Check.house(100);
            x.set(5, patience);
            spend(x, 0, 100);
            x.plan(0, 100, 1, 0);
            x.plan(0, 168, 2, 0);
            // The window's hour is 68 hours behind the plan's, and thaws before the plan's turn.
            Check.due("patience " + patience, x.doneAt(0), patience >= 68 ? 168 : NONE);
            Check.due("in the window's hour", x.doneAt(1), 168);
            x.hours(168);
            Check.due("done", x.ofService(0, 8), patience >= 68 ? 2 : 1);
            Check.due("dropped", x.ofService(0, 9), patience >= 68 ? 0 : 1);
        }
        ErrorBudgets x = Check.house(100);
        x.set(5, 0);
        x.plan(0, 5, 100, 9);
        x.plan(0, 5, 1, 8);
        Check.due("done", x.doneAt(0), 5);
        Check.due("dropped in the same hour", x.doneAt(1), NONE);
    }

    private static void doneWithManyPlans() {
        Check.promise("20 of 30 plans each one");
        ErrorBudgets x = Check.house(10000);
        for (int plan = 0; plan < 30; plan++) {
            x.plan(0, 1 + plan * 7 % 30, 1 + plan, plan % 10);
        }
        for (int plan = 0; plan < 30; plan++) {
            Check.due("doneAt(" + plan + ")", x.doneAt(plan), 1 + plan * 7 % 30);
        }
        Check.due("no such plan", x.doneAt(30), NO_SUCH);
        x = Check.house(100);
        for (int plan = 0; plan < 30; plan++) {
            x.plan(0, 5, plan == 0 ? 100 : 1, plan == 0 ? 9 : 0);
        }
        Check.due("the first", x.doneAt(0), 5);
        Check.due("the last is dropped", x.doneAt(29), NONE);
        x.set(5, 163);
        Check.due("the last is done with the window", x.doneAt(29), 168);
        x.set(5, 162);
        Check.due("the last is dropped", x.doneAt(29), NONE);
    }

    private static void bestOfManyLenders() {
        Check.promise("21 of several the one with the lowest number");
        ErrorBudgets x = Check.house(100, 100, 100, 100, 100, 100, 100, 100);
        Check.due("all alike", x.bestLender(0, 50), 1);
        Check.due("all alike", x.bestLender(1, 50), 0);
        Check.due("all alike", x.bestLender(7, 50), 0);
        for (int service = 0; service < 7; service++) {
            x.outage(service, 1, 1);
        }
        Check.due("the last has one more", x.bestLender(0, 50), 7);
        Check.due("it would borrow itself", x.bestLender(7, 50), 0);
        x.outage(7, 1, 1);
        x.outage(0, 1, 1);
        Check.due("the first has one less", x.bestLender(7, 50), 1);
        // One with less can lend, where the one with more would not have enough left.
        x.budget(1, 10000);
        x.budget(2, 500);
        Check.due("by their limits: 49 left are not more than 50", x.bestLender(0, 50), 3);
        Check.due("50 left are not more than 50", x.bestLender(0, 49), 3);
        Check.due("51 left are", x.bestLender(0, 48), 2);
    }

    private static void bestLenderWithHisLast() {
        Check.promise("21 1 to 5000 minutes");
        ErrorBudgets x = Check.house(100, 5000, 5001);
        x.set(3, 0);
        Check.due("0", x.bestLender(0, 0), BAD_VALUE);
        Check.due("1", x.bestLender(0, 1), 2);
        Check.due("4999", x.bestLender(1, 4999), 2);
        Check.due("5000", x.bestLender(0, 5000), 2);
        Check.due("5000 of 5000 would leave none", x.bestLender(2, 5000), NONE);
        Check.due("5001", x.bestLender(0, 5001), BAD_VALUE);
        Check.due("no such service", x.bestLender(3, 5001), NO_SUCH);
        Check.due("as told", x.lend(2, 0, 5000, 1), 0);
        Check.due("the lender has 1 left", left(x, 2), 1);
        Check.due("a minute of 5000", x.bestLender(0, 1), 1);
        Check.due("a minute of 5100", x.bestLender(1, 1), 0);
    }

    private static void nobodyLends() {
        Check.promise("21 NONE if nobody could");
        Check.due("no service", new ErrorBudgets().bestLender(0, 1), NO_SUCH);
        ErrorBudgets x = Check.house(1000);
        Check.due("alone", x.bestLender(0, 1), NONE);
        x.service(10);
        spend(x, 1, 10);
        Check.due("the other one is frozen", x.bestLender(0, 1), NONE);
        Check.due("it may borrow", x.bestLender(1, 1), 0);
        x.set(6, 0);
        Check.due("no loans", x.bestLender(1, 1), NONE);
        Check.due("no reason", x.count(7), 0);
        // A lender that is frozen still has enough left, since its limit is lower now.
        x = Check.house(1000, 1000);
        x.set(3, 100);
        spend(x, 0, 1000);
        x.hours(168);
        x.set(3, 0);
        Check.due("frozen", x.ofService(0, 1), 1);
        Check.due("left", left(x, 0), 1000);
        Check.due("frozen, with 1000 minutes", x.bestLender(1, 1), NONE);
    }

    private static void leastLoanThaws() {
        Check.promise("22 the fewest minutes that a service would have to borrow now so that it thaws");
        Check.due("no service", new ErrorBudgets().leastLoan(0), NO_SUCH);
        for (int thaw : new int[] {0, 1, 10, 99, 100}) {
            for (int below = 0; below <= 2; below++) {
                ErrorBudgets x = Check.house(150, 10000);
                x.budget(1, 10);
                x.set(3, thaw);
                Check.due("not frozen", x.leastLoan(0), 0);
                spend(x, 0, 150 + below);
                int least = 150 * thaw / 100 + 1 + below;
                Check.due("thaw " + thaw + ", " + below + " below 0", x.leastLoan(0), least);
                if (least > 1) {
                    x.lend(1, 0, least - 1, 1);
                    Check.due("one less", x.ofService(0, 1), 1);
                    Check.due("one more", x.leastLoan(0), 1);
                    x.undo();
                }
                x.lend(1, 0, least, 1);
                Check.due("as told", x.ofService(0, 1), 0);
                Check.due("not frozen then", x.leastLoan(0), 0);
            }
        }
        ErrorBudgets x = Check.house(10000);
        x.set(3, 100);
        spend(x, 0, 10600);
        Check.due("more than can be lent at once", x.leastLoan(0), 10601);
        x.set(3, 0);
        Check.due("by the limit that is now", x.leastLoan(0), 601);
        x.budget(0, 10);
        x.set(3, 100);
        Check.due("by the budget that is now", x.leastLoan(0), 611);
    }

    private static void safeSizeIsSafe() {
        Check.promise("23 the greatest size of a release with which it would not be frozen then");
        Check.due("no service", new ErrorBudgets().safeSize(0), NO_SUCH);
        for (int left : new int[] {1, 2, 3, 199, 200, 201, 202, 300}) {
            ErrorBudgets x = Check.house(300);
            spend(x, 0, 300 - left);
            int due = left == 1 ? NONE : Math.min(200, left - 1);
            Check.due(left + " left", x.safeSize(0), due);
            if (due > 0) {
                x.release(0, due, 0);
                Check.due("as told", x.ofService(0, 1), 0);
                x.undo();
            }
            if (due < 200) {
                x.release(0, left, 0);
                Check.due("one more", x.ofService(0, 1), 1);
            }
        }
        ErrorBudgets x = Check.house(300, 1000);
        spend(x, 0, 300);
        Check.due("0 left", x.safeSize(0), NONE);
        x.lend(1, 0, 30, 1);
        Check.due("30 left, but frozen", x.safeSize(0), NONE);
        x.lend(1, 0, 1, 1);
        Check.due("31 left, thawed", x.safeSize(0), 30);
        Check.due("exemptions do not matter", x.ofService(0, 2), 1);
    }

    private static void forecastsKeepThePadAndTheHistory() {
        Check.promise("17 to 23 nothing changes");
        ErrorBudgets x = busyHouse();
        x.save(1);
        Check.type(x, "h1;x0");
        String before = Check.picture(x);
        for (int service = 0; service < 4; service++) {
            x.leftIn(service, 1000);
            x.frozenIn(service);
            x.thawsIn(service);
            x.doneAt(service);
            x.bestLender(service, 1);
            x.bestLender(service, 5000);
            x.leastLoan(service);
            x.safeSize(service);
        }
        Check.holds("the state", Check.picture(x).equals(before));
        Check.due("the pad", x.count(8), 5);
        Check.due("its fault", x.fault(), NONE);
        Check.due("the reason", x.count(7), 0);
        Check.due("changes", x.count(9), 6);
        Check.due("the slot", x.restore(1), 5);
        Check.holds("as it was saved", Check.picture(x).equals(before));
        x.undo();
        Check.due("the change before", x.undo(), 4);
        Check.due("one plan less", x.count(6), 5);
    }
}
