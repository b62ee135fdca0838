/** Promise 11: hours, with the terms of windows, loans that are due and plans whose hour has come. */
public final class HoursTest {
    public static void main(String[] args) {
        hours();
        windows();
        windowsOfAnotherLength();
        carriedOver();
        grantIsOneChange();
        loansAreDue();
        loansArePaidInOrder();
        loansGrow();
        loansHaveAMost();
        payingFreezesAndThaws();
        plansInOrder();
        plansWait();
        plansAreDropped();
        Check.end("HoursTest");
    }

    private static void hours() {
        Check.promise("11 hours");
        ErrorBudgets x = new ErrorBudgets();
        Check.due("hours", x.hours(0), -2);
        Check.due("hours", x.hours(1001), -2);
        Check.due("hours", x.hours(-1), -2);
        Check.due("hours", x.hours(Integer.MIN_VALUE), -2);
        Check.due("hours", x.hours(Integer.MAX_VALUE), -2);
        Check.due("changes", x.count(9), 0);
        Check.due("one", x.hours(1), 1);
        Check.due("most", x.hours(1000), 1001);
        Check.due("the hour", x.count(0), 1001);
        Check.due("changes", x.count(9), 2);
    }

    private static void windows() {
        Check.promise("11 hours: windows");
        ErrorBudgets x = new ErrorBudgets();
        x.hours(167);
        Check.due("window", x.count(1), 0);
        Check.due("began", x.count(2), 0);
        x.hours(1);
        Check.due("window", x.count(1), 1);
        Check.due("began", x.count(2), 168);
        x.hours(1000);
        Check.due("window", x.count(1), 6);
        Check.due("began", x.count(2), 1008);
    }

    private static void windowsOfAnotherLength() {
        Check.promise("11 hours: windows of another length");
        ErrorBudgets x = new ErrorBudgets();
        x.hours(100);
        x.set(0, 12);
        Check.due("not by the setting", x.count(1), 0);
        x.hours(1);
        Check.due("with the next hour, one", x.count(1), 1);
        Check.due("began", x.count(2), 101);
        x.hours(11);
        Check.due("not yet", x.count(1), 1);
        x.hours(1);
        Check.due("the next", x.count(1), 2);
        x.set(0, 20);
        x.hours(12);
        Check.due("longer now", x.count(1), 2);
        x.hours(8);
        Check.due("began", x.count(2), 133);
    }

    private static void carriedOver() {
        Check.promise("11 hours: carried over");
        ErrorBudgets x = Check.house(103, 103, 103, 1000);
        x.lend(3, 0, 100, 9);
        x.outage(1, 3, 100);
        x.outage(2, 113, 100);
        x.set(7, 4);
        x.hours(168);
        Check.due("min(203, 103) * 25 / 100 + 103", x.account(0, 8), 25 + 103);
        Check.due("lapsed", x.account(0, 7), 178);
        Check.due("granted", x.account(0, 0), 206);
        Check.due("100 * 25 / 100 + 103", x.account(1, 8), 128);
        Check.due("lapsed", x.account(1, 7), 75);
        Check.due("below 0 nothing lapses", x.account(2, 7), 0);
        Check.due("-10 + 103", x.account(2, 8), 93);
        Check.due("thawed", x.ofService(2, 1), 0);
        Check.due("exemptions", x.ofService(2, 2), 4);
        x = Check.house(100);
        x.set(1, 100);
        x.hours(168);
        Check.due("all is carried over", x.account(0, 8), 200);
        x.hours(168);
        Check.due("but at most the budget", x.account(0, 8), 200);
        Check.due("lapsed", x.account(0, 7), 100);
        x.set(1, 0);
        x.hours(168);
        Check.due("nothing is carried over", x.account(0, 8), 100);
    }

    private static void grantIsOneChange() {
        Check.promise("11 hours: what lapses and is granted is one change");
        ErrorBudgets x = Check.house(100);
        x.set(1, 0);
        x.hours(168);
        Check.due("all lapses, but it is not frozen", x.ofService(0, 10), 0);
        Check.due("left", x.account(0, 8), 100);
        // Frozen with 100 minutes; the window changes them to 100 again, and that thaws.
        x = Check.house(1000, 10000);
        x.set(1, 0);
        x.outage(0, 600, 100);
        x.outage(0, 400, 100);
        x.lend(1, 0, 100, 9);
        x.budget(0, 100);
        Check.due("frozen", x.ofService(0, 1), 1);
        x.hours(167);
        Check.due("frozen up to the window", x.ofService(0, 1), 1);
        x.hours(1);
        Check.due("the same minutes", x.account(0, 8), 100);
        Check.due("but thawed", x.ofService(0, 1), 0);
        x = Check.house(100);
        x.set(3, 100);
        x.outage(0, 100, 100);
        x.hours(168);
        Check.due("100 are not more than 100", x.ofService(0, 1), 1);
        x.hours(168);
        Check.due("125 are", x.ofService(0, 1), 0);
        x = Check.house(10);
        x.outage(0, 30, 100);
        x.hours(168);
        Check.due("still below 0", x.account(0, 8), -10);
        x.hours(168);
        Check.due("0", x.account(0, 8), 0);
        Check.due("frozen", x.ofService(0, 1), 1);
        Check.due("frozen once", x.ofService(0, 10), 1);
    }

    private static void loansAreDue() {
        Check.promise("11 hours: loans are due");
        ErrorBudgets x = Check.house(1000, 100);
        x.set(1, 0);
        x.lend(0, 1, 50, 2);
        x.hours(168);
        Check.due("not due yet", x.ofLoan(0, 3), 55);
        Check.due("due", x.ofLoan(0, 4), 2);
        x.hours(167);
        Check.due("not due yet", x.count(5), 1);
        x.hours(1);
        Check.due("gone", x.count(5), 0);
        Check.due("paid behind the grant", x.account(1, 8), 45);
        Check.due("paid back", x.account(1, 6), 55);
        Check.due("the lender gets it behind its grant", x.account(0, 8), 1055);
        Check.due("got back", x.account(0, 2), 55);
    }

    private static void loansArePaidInOrder() {
        Check.promise("11 hours: loans are paid in order");
        ErrorBudgets x = Check.house(1000, 1000, 100);
        x.set(1, 0);
        x.set(2, 0);
        x.set(4, 50);
        x.lend(0, 2, 60, 1);
        x.lend(1, 2, 70, 1);
        x.lend(0, 2, 5, 2);
        x.hours(168);
        Check.due("the first is paid", x.account(0, 2), 60);
        Check.due("the second in part", x.account(1, 2), 40);
        Check.due("the third is not due", x.ofLoan(1, 2), 5);
        Check.due("its owed", x.ofLoan(1, 3), 5);
        Check.due("the second's number decreased", x.ofLoan(0, 0), 1);
        Check.due("30 + 30 * 50 / 100", x.ofLoan(0, 3), 45);
        Check.due("its minutes stay", x.ofLoan(0, 2), 70);
        Check.due("due with the next window", x.ofLoan(0, 4), 2);
        // A loan of a lower number, that is due in the same window, comes first.
        x.set(6, 10);
        x.lend(0, 2, 80, 1);
        x.outage(2, 100, 100);
        x.hours(168);
        Check.due("the lowest number is paid", x.account(1, 2), 85);
        Check.due("then the next", x.account(0, 2), 65 + 30);
        Check.due("the latest in part", x.count(5), 1);
        Check.due("50 + 50 * 50 / 100", x.ofLoan(0, 3), 75);
    }

    private static void loansGrow() {
        Check.promise("11 hours: loans grow");
        ErrorBudgets x = Check.house(1000, 10);
        x.set(4, 33);
        x.lend(0, 1, 100, 1);
        x.outage(1, 600, 100);
        x.hours(168);
        Check.due("110 + 110 * 33 / 100", x.ofLoan(0, 3), 146);
        Check.due("due", x.ofLoan(0, 4), 2);
        Check.due("nothing is paid", x.account(1, 6), 0);
        x.set(4, 0);
        x.hours(168);
        Check.due("without penalty", x.ofLoan(0, 3), 146);
        Check.due("due", x.ofLoan(0, 4), 3);
        Check.due("still a loan", x.ofService(1, 3), 1);
    }

    private static void loansHaveAMost() {
        Check.promise("11 hours: loans have a most of 10000000");
        ErrorBudgets x = Check.house(10000, 10);
        x.set(0, 12);
        x.set(4, 100);
        x.lend(0, 1, 100, 1);
        for (int outage = 0; outage < 20; outage++) {
            x.outage(1, 600, 100);
        }
        long owed = 110;
        for (int window = 1; window <= 20; window++) {
            x.hours(12);
            owed = Math.min(10000000, 2 * owed);
            Check.due("owed in window " + window, x.ofLoan(0, 3), owed);
        }
        Check.due("the most", x.ofLoan(0, 3), 10000000);
        Check.due("what it owes", x.ofService(1, 5), 10000000);
    }

    private static void payingFreezesAndThaws() {
        Check.promise("11 hours: paying freezes and thaws");
        ErrorBudgets x = Check.house(1000, 100);
        x.set(1, 0);
        x.lend(0, 1, 100, 1);
        x.hours(168);
        Check.due("100 of 110 are paid", x.account(1, 6), 100);
        Check.due("frozen", x.ofService(1, 1), 1);
        Check.due("how often", x.ofService(1, 10), 1);
        Check.due("10 + 10 * 20 / 100", x.ofLoan(0, 3), 12);
        x.hours(168);
        Check.due("thawed by the grant, then paid", x.account(1, 8), 88);
        Check.due("not frozen", x.ofService(1, 1), 0);
        // The lender's grant is not enough to thaw it, but what it gets back is.
        x = Check.house(100, 1000);
        x.set(1, 0);
        x.lend(1, 0, 200, 9);
        x.lend(0, 1, 50, 1);
        x.set(3, 100);
        x.outage(0, 250, 100);
        x.hours(168);
        Check.due("100 and 55", x.account(0, 8), 155);
        Check.due("thawed", x.ofService(0, 1), 0);
        // A service that was frozen with 0 minutes and pays nothing stays as it is.
        x = Check.house(1000, 10);
        x.set(1, 0);
        x.lend(0, 1, 100, 1);
        x.outage(1, 130, 100);
        x.hours(168);
        Check.due("-10", x.account(1, 8), -10);
        Check.due("frozen once", x.ofService(1, 10), 1);
        Check.due("the lender got nothing", x.account(0, 2), 0);
    }

    private static void plansInOrder() {
        Check.promise("11 hours: plans in order");
        // Each release leaves so little that the order can be seen from what is left over.
        ErrorBudgets x = Check.house(100);
        x.plan(0, 5, 50, 3);
        x.plan(0, 5, 60, 4);
        x.hours(4);
        Check.due("not yet", x.count(6), 2);
        x.hours(1);
        Check.due("the highest priority first, then there is enough for the other", x.account(0, 4), 110);
        x = Check.house(100);
        x.plan(0, 5, 50, 3);
        x.plan(0, 5, 100, 4);
        x.hours(5);
        Check.due("the highest priority first", x.account(0, 4), 100);
        Check.due("the other waits", x.ofPlan(0, 2), 50);
        x = Check.house(100);
        x.plan(0, 5, 100, 3);
        x.plan(0, 5, 50, 3);
        x.hours(5);
        Check.due("the lowest number first", x.account(0, 4), 100);
        Check.due("the other waits", x.ofPlan(0, 2), 50);
        // Two wait with different hours; when the service thaws, the earlier one is first.
        x = Check.house(100, 1000);
        x.outage(0, 100, 100);
        x.plan(0, 6, 60, 3);
        x.plan(0, 5, 50, 3);
        x.hours(6);
        Check.due("both wait", x.count(6), 2);
        x.lend(1, 0, 50, 5);
        x.hours(1);
        Check.due("the earliest hour first", x.account(0, 4), 50);
        Check.due("frozen again", x.ofService(0, 1), 1);
        Check.due("the other waits", x.ofPlan(0, 2), 60);
        Check.due("its hour stays", x.ofPlan(0, 1), 6);
        Check.due("releases", x.ofService(0, 8), 1);
    }

    private static void plansWait() {
        Check.promise("11 hours: plans wait");
        ErrorBudgets x = Check.house(100, 100);
        x.outage(0, 100, 100);
        x.plan(0, 10, 30, 0);
        x.plan(1, 10, 20, 0);
        x.hours(10);
        Check.due("the frozen one waits", x.count(6), 1);
        Check.due("the other is done", x.account(1, 4), 20);
        Check.due("no exemption is used", x.ofService(0, 2), 1);
        x.lend(1, 0, 11, 9);
        x.hours(1);
        Check.due("done when it thawed", x.account(0, 4), 30);
        Check.due("below 0", x.account(0, 8), -19);
        Check.due("frozen again", x.ofService(0, 10), 2);
        // The window begins before the plans' turn comes.
        x = Check.house(100);
        x.outage(0, 100, 100);
        x.plan(0, 168, 30, 0);
        x.hours(168);
        Check.due("done in the hour of the window", x.ofService(0, 8), 1);
        Check.due("left", x.account(0, 8), 70);
    }

    private static void plansAreDropped() {
        Check.promise("11 hours: plans are dropped");
        ErrorBudgets x = Check.house(100);
        x.outage(0, 100, 100);
        x.plan(0, 10, 30, 0);
        x.plan(0, 11, 30, 9);
        x.hours(57);
        Check.due("47 hours ago", x.count(6), 2);
        x.hours(1);
        Check.due("48 hours ago", x.count(6), 1);
        Check.due("the later one stays", x.ofPlan(0, 1), 11);
        Check.due("dropped by an hour", x.ofService(0, 9), 1);
        Check.due("not done", x.ofService(0, 8), 0);
        x.hours(1);
        Check.due("dropped by an hour", x.ofService(0, 9), 2);
        x = Check.house(100);
        x.set(5, 0);
        x.outage(0, 100, 100);
        x.plan(0, 5, 30, 0);
        x.hours(4);
        Check.due("not yet", x.count(6), 1);
        x.hours(1);
        Check.due("dropped in its hour", x.ofService(0, 9), 1);
        x = Check.house(100);
        x.outage(0, 100, 100);
        x.plan(0, 5, 30, 0);
        x.hours(30);
        x.set(5, 3);
        Check.due("not by the setting", x.count(6), 1);
        x.hours(1);
        Check.due("but by the next hour", x.count(6), 0);
    }
}
