/** The sentences of the document's terms (settings, services, loans, plans, an hour, reasons) that name an edge. */
public final class EdgesTest {
    private static final int REFUSED = -5, NONE = -6;

    public static void main(String[] args) {
        windowsOfTheShortestAndTheLongestLength();
        windowsThatAreLate();
        exemptionsOfAService();
        frozenAtNothing();
        thawsAboveTheLimit();
        thawLimitsAreRoundedDown();
        changesBetweenNothingAndTheLimit();
        outagesTellWhetherItIsFrozen();
        outagesAreRoundedUp();
        interestIsRoundedDown();
        lendersKeepTheirLimit();
        borrowersHaveLoans();
        loansAreDueWindowsLater();
        loansAreGone();
        carriesAreRoundedDown();
        carriesHaveAMost();
        payingAsMuchAsThereIs();
        payingNothing();
        payingOneAfterTheOther();
        penaltiesAreRoundedDown();
        owedHasAMost();
        plansAsFarAsTheyGo();
        plansInAnHour();
        patience();
        thawedPlansAreDone();
        frozenByARelease();
        reasonsStay();
        firstReasonThatApplies();
        refusedChangesNothing();
        accountsAddUp();
        longestLife();
        Check.end("EdgesTest");
    }

    private static long left(ErrorBudgets x, int service) {
        return x.account(service, 8);
    }

    private static boolean frozen(ErrorBudgets x, int service) {
        return x.ofService(service, 1) == 1;
    }

    /** Spends minutes of a service by outages. */
    private static void spend(ErrorBudgets x, int service, int minutes) {
        for (int rest = minutes; rest > 0; rest -= 600) {
            x.outage(service, Math.min(rest, 600), 100);
        }
    }

    private static void windowsOfTheShortestAndTheLongestLength() {
        Check.promise("a new window begins if the last one began WINDOW hours before");
        for (int length : new int[] {12, 13, 168, 719, 720}) {
            ErrorBudgets x = Check.house(100);
            x.set(0, length);
            x.hours(length - 1);
            Check.due("window after " + (length - 1), x.count(1), 0);
            Check.due("granted after " + (length - 1), x.account(0, 0), 100);
            x.hours(1);
            Check.due("window after " + length, x.count(1), 1);
            Check.due("granted after " + length, x.account(0, 0), 200);
            x.hours(length - 1);
            Check.due("window after " + (2 * length - 1), x.count(1), 1);
            x.hours(1);
            Check.due("window after " + 2 * length, x.count(1), 2);
            Check.due("which began", x.count(2), 2 * length);
        }
    }

    private static void windowsThatAreLate() {
        Check.promise("or earlier");
        ErrorBudgets x = Check.house(100);
        x.hours(13);
        x.set(0, 13);
        Check.due("WINDOW hours before already, but no hour passed", x.count(1), 0);
        x.hours(1);
        Check.due("14 hours before", x.count(1), 1);
        Check.due("it begins with this hour", x.count(2), 14);
        x.hours(12);
        Check.due("12 hours before", x.count(1), 1);
        x.hours(1);
        Check.due("13 hours before", x.count(1), 2);
        x.set(0, 720);
        x.hours(700);
        x.set(0, 12);
        x.hours(1);
        Check.due("701 hours before, but one window only", x.count(1), 3);
        Check.due("granted once", x.account(0, 0), 400);
        Check.due("it begins with this hour", x.count(2), 728);
        x.hours(11);
        Check.due("11 hours before", x.count(1), 3);
    }

    private static void exemptionsOfAService() {
        Check.promise("exemptions that are left are EXEMPT");
        for (int exempt : new int[] {0, 1, 9}) {
            ErrorBudgets x = new ErrorBudgets();
            x.set(7, exempt);
            x.service(10);
            x.outage(0, 600, 100);
            for (int left = exempt; left > 0; left--) {
                Check.due("left", x.ofService(0, 2), left);
                Check.due("release", x.release(0, 1, 1), 1);
            }
            Check.due("none is left", x.ofService(0, 2), 0);
            Check.due("refused", x.release(0, 1, 1), REFUSED);
            Check.due("the reason", x.count(7), 1);
            Check.due("none is left still", x.ofService(0, 2), 0);
            x.set(7, 9 - exempt);
            x.hours(167);
            Check.due("not before the window", x.ofService(0, 2), 0);
            x.hours(1);
            Check.due("with the new window", x.ofService(0, 2), 9 - exempt);
        }
        ErrorBudgets x = new ErrorBudgets();
        x.set(7, 9);
        x.service(100);
        x.set(7, 0);
        x.hours(168);
        Check.due("none that were left stay", x.ofService(0, 2), 0);
    }

    private static void frozenAtNothing() {
        Check.promise("frozen whenever its minutes change to 0 or less (by whatever)");
        for (int left = -1; left <= 1; left++) {
            int due = left > 0 ? 0 : 1;
            ErrorBudgets x = Check.house(100, 1000);
            Check.due("outage to " + left, x.outage(0, 100 - left, 100), due);
            Check.due("left", left(x, 0), left);
            Check.due("how often", x.ofService(0, 10), due);
            x = Check.house(100, 1000);
            x.release(0, 100 - left, 0);
            Check.due("release to " + left, x.ofService(0, 1), due);
            Check.due("how often", x.ofService(0, 10), due);
            x = Check.house(100, 1000);
            x.plan(0, 1, 100 - left, 0);
            x.hours(1);
            Check.due("plan to " + left, x.ofService(0, 1), due);
            Check.due("how often", x.ofService(0, 10), due);
        }
        for (int left = 0; left <= 1; left++) {
            ErrorBudgets x = Check.house(100, 1000);
            x.lend(1, 0, 10, 1);
            spend(x, 0, 110 - 11 - left);
            Check.due("all is paid", x.repay(0), 0);
            Check.due("paid back to " + left, x.ofService(0, 1), 1 - left);
            x = Check.house(100, 1000);
            x.set(1, 0);
            x.lend(1, 0, 100, 1);
            spend(x, 0, 160);
            // 40 lapse, 100 are granted, and as much as 110 is owed: 100 are paid.
            x.hours(168);
            Check.due("frozen by what was due", x.ofService(0, 1), 1);
            Check.due("how often", x.ofService(0, 10), 1);
        }
        ErrorBudgets x = Check.house(100);
        spend(x, 0, 101);
        x.release(0, 1, 1);
        spend(x, 0, 5);
        Check.due("frozen from not being so, once", x.ofService(0, 10), 1);
    }

    private static void thawsAboveTheLimit() {
        Check.promise("it thaws whenever they change to more than budget * THAW / 100");
        for (int thaw : new int[] {0, 1, 10, 99, 100}) {
            int limit = 2 * thaw;
            thawsByALoan(thaw, limit);
            thawsByALoan(thaw, limit + 1);
            thawsByAPayment(thaw, limit, false);
            thawsByAPayment(thaw, limit + 1, false);
            thawsByAPayment(thaw, limit, true);
            thawsByAPayment(thaw, limit + 1, true);
            thawsByAGrant(thaw, limit);
            thawsByAGrant(thaw, Math.min(200, limit + 1));
        }
    }

    private static void thawsByALoan(int thaw, int left) {
        ErrorBudgets x = Check.house(200, 5000);
        x.budget(1, 10);
        x.set(3, thaw);
        spend(x, 0, 200);
        x.lend(1, 0, left, 1);
        Check.due("left by a loan", left(x, 0), left);
        Check.due("thaw " + thaw + ", loan of " + left, x.ofService(0, 1), left > 2 * thaw ? 0 : 1);
    }

    /** A lender without a minute gets so many back, ahead of time or when they are due. */
    private static void thawsByAPayment(int thaw, int left, boolean ahead) {
        int granted = ahead ? 0 : 200;
        if (left < granted || left == 0) {
            return;
        }
        ErrorBudgets x = Check.house(1000, 1000);
        x.set(2, 0);
        x.set(3, 0);
        x.lend(0, 1, Math.max(1, left - granted), 1);
        spend(x, 0, 1000 - (int) x.account(0, 5) + (left == granted ? 1 : 0));
        x.budget(0, 200);
        x.set(3, thaw);
        Check.holds("frozen", frozen(x, 0));
        Check.due("paid", ahead ? x.repay(0) : x.hours(168), ahead ? 0 : 168);
        Check.due("left by a payment", left(x, 0), left);
        Check.due("thaw " + thaw + ", payment, " + left, x.ofService(0, 1), left > 2 * thaw ? 0 : 1);
    }

    private static void thawsByAGrant(int thaw, int left) {
        ErrorBudgets x = Check.house(200);
        x.set(3, thaw);
        spend(x, 0, 400 - left);
        x.hours(168);
        Check.due("left by a grant", left(x, 0), left);
        Check.due("thaw " + thaw + ", grant, " + left, x.ofService(0, 1), left > 2 * thaw ? 0 : 1);
    }

    private static void thawLimitsAreRoundedDown() {
        Check.promise("budget * THAW / 100, rounded down");
        int[][] rows = {{10, 9, 0}, {10, 10, 1}, {10, 19, 1}, {10, 20, 2}, {199, 1, 1}, {99, 1, 0}, {10000, 1, 100}};
        for (int[] row : rows) {
            ErrorBudgets x = Check.house(row[0], 10000);
            x.set(3, row[1]);
            spend(x, 0, row[0]);
            Check.due("least loan", x.leastLoan(0), row[2] + 1);
            if (row[2] > 0) {
                x.lend(1, 0, row[2], 1);
                Check.due("at the limit", x.ofService(0, 1), 1);
                x.undo();
            }
            x.lend(1, 0, row[2] + 1, 1);
            Check.due("one above it", x.ofService(0, 1), 0);
        }
    }

    private static void changesBetweenNothingAndTheLimit() {
        Check.promise("between 0 and the limit nothing is frozen and nothing thaws");
        ErrorBudgets x = Check.house(100, 1000);
        spend(x, 0, 90);
        Check.holds("10 left, not frozen", !frozen(x, 0));
        spend(x, 0, 9);
        Check.holds("1 left, not frozen", !frozen(x, 0));
        x.lend(1, 0, 3, 1);
        Check.holds("4 left, not frozen", !frozen(x, 0));
        spend(x, 0, 4);
        Check.holds("0 left, frozen", frozen(x, 0));
        x.lend(1, 0, 10, 1);
        Check.holds("10 left, frozen", frozen(x, 0));
        spend(x, 0, 9);
        Check.holds("1 left, frozen", frozen(x, 0));
        Check.due("a release of a service that is frozen, with 1 left", x.release(0, 1, 0), REFUSED);
        spend(x, 0, 1);
        Check.due("frozen once", x.ofService(0, 10), 1);
        x.lend(1, 0, 11, 1);
        Check.holds("11 left, thawed", !frozen(x, 0));
        spend(x, 0, 11);
        Check.due("frozen twice", x.ofService(0, 10), 2);
    }

    private static void outagesTellWhetherItIsFrozen() {
        Check.promise("5 returns 1 if it is frozen then, otherwise 0");
        ErrorBudgets x = Check.house(100, 1000);
        Check.due("99 of 100", x.outage(0, 99, 100), 0);
        Check.due("1 of 1", x.outage(0, 1, 1), 1);
        x.lend(1, 0, 10, 1);
        Check.due("frozen before, with 9 left", x.outage(0, 1, 1), 1);
        x.set(3, 7);
        Check.due("8 are more than 7: it thaws", x.outage(0, 1, 1), 0);
        Check.due("not frozen before, with 7 left", x.outage(0, 1, 1), 0);
        Check.due("0 left", x.outage(0, 7, 100), 1);
        Check.due("below 0", x.outage(0, 600, 100), 1);
        Check.due("frozen twice", x.ofService(0, 10), 2);
    }

    private static void outagesAreRoundedUp() {
        Check.promise("minutes * share / 100, rounded up");
        int[][] rows = {
            {1, 1, 1}, {1, 99, 1}, {1, 100, 1}, {99, 1, 1}, {100, 1, 1}, {101, 1, 2}, {200, 1, 2}, {201, 1, 3},
            {600, 1, 6}, {599, 1, 6}, {600, 99, 594}, {599, 99, 594}, {600, 100, 600}, {3, 33, 1}, {3, 34, 2}, {50, 50, 25},
        };
        for (int[] row : rows) {
            ErrorBudgets x = Check.house(1000);
            Check.due("outage", x.outage(0, row[0], row[1]), 0);
            Check.due(row[0] + " * " + row[1] + " / 100", x.account(0, 3), row[2]);
            Check.due("left", left(x, 0), 1000 - row[2]);
        }
    }

    private static void interestIsRoundedDown() {
        Check.promise("minutes * INTEREST / 100 more, rounded down");
        int[][] rows = {
            {1, 0, 1}, {1, 99, 1}, {1, 100, 2}, {9, 10, 9}, {10, 10, 11}, {19, 10, 20}, {99, 1, 99}, {100, 1, 101},
            {5000, 0, 5000}, {5000, 1, 5050}, {5000, 100, 10000}, {4999, 99, 9948},
        };
        for (int[] row : rows) {
            ErrorBudgets x = Check.house(10000, 10);
            x.set(2, row[1]);
            Check.due("lend", x.lend(0, 1, row[0], 1), 0);
            Check.due(row[0] + " with " + row[1] + " percent", x.ofLoan(0, 3), row[2]);
            Check.due("the minutes", x.ofLoan(0, 2), row[0]);
            Check.due("left", left(x, 0), 10000 - row[0]);
            Check.due("left", left(x, 1), 10 + row[0]);
            x.set(2, 50);
            Check.due("a loan keeps its interest", x.ofLoan(0, 3), row[2]);
        }
    }

    private static void lendersKeepTheirLimit() {
        Check.promise("3 the lender would not have more than budget * THAW / 100 left");
        for (int thaw : new int[] {0, 1, 10, 99}) {
            ErrorBudgets x = Check.house(200, 10);
            x.set(3, thaw);
            int most = 200 - 2 * thaw - 1;
            Check.due("one too many, thaw " + thaw, x.lend(0, 1, most + 1, 1), REFUSED);
            Check.due("the reason", x.count(7), 3);
            Check.due("nobody", x.bestLender(1, most + 1), NONE);
            Check.due("bestLender", x.bestLender(1, most), 0);
            Check.due("the most", x.lend(0, 1, most, 1), 0);
            Check.due("left", left(x, 0), 2 * thaw + 1);
            Check.holds("not frozen", !frozen(x, 0));
        }
        ErrorBudgets x = Check.house(200, 10, 1000);
        x.set(3, 100);
        Check.due("a budget that nothing was added to", x.lend(0, 1, 1, 1), REFUSED);
        x.set(3, 0);
        x.lend(2, 0, 1, 1);
        x.set(3, 100);
        Check.due("201 left, 200 then", x.lend(0, 1, 1, 1), REFUSED);
        x.set(3, 0);
        x.lend(2, 0, 1, 1);
        x.set(3, 100);
        Check.due("202 left, 201 then", x.lend(0, 1, 1, 1), 2);
    }

    private static void borrowersHaveLoans() {
        Check.promise("4 the borrower has LOANS loans or more");
        for (int most : new int[] {0, 1, 3, 10}) {
            ErrorBudgets x = Check.house(1000, 1000, 1000);
            x.set(6, most);
            for (int loan = 0; loan < most; loan++) {
                Check.due("lender", x.bestLender(1, 1), loan == 0 ? 0 : 2 * (loan % 2));
                Check.due("lend", x.lend(2 * (loan % 2), 1, 1, 9), loan);
            }
            Check.due("no lender", x.bestLender(1, 1), NONE);
            Check.due("one too many", x.lend(0, 1, 1, 1), REFUSED);
            Check.due("the reason", x.count(7), 4);
            Check.due("loans", x.ofService(1, 3), most);
            if (most > 0) {
                Check.due("another borrower", x.lend(1, 0, 1, 1), most);
                x.set(6, most - 1);
                Check.due("more than LOANS", x.lend(0, 1, 1, 1), REFUSED);
                x.set(6, most);
                x.repay(0);
                Check.due("one is gone", x.lend(0, 1, 1, 1), most);
            }
        }
    }

    private static void loansAreDueWindowsLater() {
        Check.promise("it is due when the window begins that comes so many windows later");
        for (int windows : new int[] {1, 2, 9}) {
            ErrorBudgets x = Check.house(1000, 1000);
            x.set(0, 12);
            x.hours(30);
            x.lend(0, 1, 100, windows);
            Check.due("due", x.ofLoan(0, 4), 2 + windows);
            x.hours(12 * (2 + windows) - 30 - 1);
            Check.due("not in the hour before", x.count(5), 1);
            Check.due("nothing is paid", x.account(1, 6), 0);
            x.hours(1);
            Check.due("gone", x.count(5), 0);
            Check.due("paid", x.account(1, 6), 110);
            Check.due("got back", x.account(0, 2), 110);
        }
    }

    private static void loansAreGone() {
        Check.promise("the numbers of the later ones decrease by 1");
        ErrorBudgets x = Check.house(1000, 1000);
        x.set(6, 10);
        int[] windows = {1, 2, 1, 3, 1, 2};
        for (int loan = 0; loan < 6; loan++) {
            x.lend(0, 1, 10 * (loan + 1), windows[loan]);
        }
        x.hours(168);
        int[] minutes = {20, 40, 60};
        int[] due = {2, 3, 2};
        Check.due("loans", x.count(5), 3);
        for (int loan = 0; loan < 3; loan++) {
            Check.due("minutes of " + loan, x.ofLoan(loan, 2), minutes[loan]);
            Check.due("owed of " + loan, x.ofLoan(loan, 3), minutes[loan] * 11 / 10);
            Check.due("due of " + loan, x.ofLoan(loan, 4), due[loan]);
        }
        Check.due("no such loan", x.ofLoan(3, 2), -1);
        Check.due("the last one", x.repay(2), 0);
        Check.due("the first one", x.ofLoan(0, 2), 20);
        Check.due("no such loan", x.repay(2), -1);
        Check.due("the first one", x.repay(0), 0);
        Check.due("the only one", x.ofLoan(0, 2), 40);
        Check.due("the only one", x.repay(0), 0);
        Check.due("no loans", x.count(5), 0);
        Check.due("no such loan", x.repay(0), -1);
        Check.due("a new one", x.lend(0, 1, 5, 1), 0);
    }

    private static void carriesAreRoundedDown() {
        Check.promise("min(these, budget) * CARRY / 100 are carried over, and the rest of them lapses");
        int[][] rows = {
            {1, 25, 0}, {3, 25, 0}, {4, 25, 1}, {7, 25, 1}, {100, 0, 0}, {100, 1, 1}, {99, 1, 0}, {1, 99, 0}, {1, 100, 1},
            {99, 99, 98}, {100, 99, 99}, {100, 100, 100},
        };
        for (int[] row : rows) {
            ErrorBudgets x = Check.house(100);
            x.set(1, row[1]);
            spend(x, 0, 100 - row[0]);
            x.hours(168);
            Check.due(row[0] + " with " + row[1] + " percent", left(x, 0), 100 + row[2]);
            Check.due("lapsed", x.account(0, 7), row[0] - row[2]);
            Check.due("granted", x.account(0, 0), 200);
        }
        for (int below = 0; below <= 2; below++) {
            ErrorBudgets x = Check.house(100);
            x.set(1, 100);
            spend(x, 0, 100 + below);
            x.hours(168);
            Check.due("what is not above 0 is not carried over", left(x, 0), 100 - below);
            Check.due("nor lapses", x.account(0, 7), 0);
        }
    }

    private static void carriesHaveAMost() {
        Check.promise("min(these, budget)");
        for (int more = -1; more <= 1; more++) {
            ErrorBudgets x = Check.house(100, 1000);
            x.set(1, 100);
            x.lend(1, 0, 50, 9);
            spend(x, 0, 50 - more);
            Check.due("left", left(x, 0), 100 + more);
            x.hours(168);
            Check.due("carried over", left(x, 0), 100 + Math.min(100 + more, 100));
            Check.due("lapsed", x.account(0, 7), Math.max(0, more));
        }
        ErrorBudgets x = Check.house(10000);
        x.set(1, 100);
        x.hours(168);
        Check.due("the greatest budget", left(x, 0), 20000);
        x.budget(0, 10);
        x.hours(168);
        Check.due("the smallest budget", left(x, 0), 20);
        Check.due("lapsed", x.account(0, 7), 19990);
    }

    private static void payingAsMuchAsThereIs() {
        Check.promise("the borrower pays what is owed, but at most the minutes that it has left");
        for (int less = -1; less <= 1; less++) {
            // 110 are owed; the window leaves 110 - less minutes.
            ErrorBudgets x = Check.house(1000, 110 - less);
            x.set(1, 0);
            x.lend(0, 1, 100, 1);
            x.hours(168);
            int paid = Math.min(110, 110 - less);
            Check.due("paid, less " + less, x.account(1, 6), paid);
            Check.due("got back", x.account(0, 2), paid);
            Check.due("left", left(x, 1), 110 - less - paid);
            Check.due("frozen", x.ofService(1, 1), less < 0 ? 0 : 1);
            Check.due("loans", x.count(5), less > 0 ? 1 : 0);
            // The same ahead of time.
            x = Check.house(1000, 100);
            x.lend(0, 1, 100, 1);
            spend(x, 1, 200 - 110 + less);
            Check.due("repay, less " + less, x.repay(0), Math.max(0, less));
            Check.due("left", left(x, 1), less < 0 ? 1 : 0);
            Check.due("frozen", x.ofService(1, 1), less < 0 ? 0 : 1);
            Check.due("loans", x.count(5), less > 0 ? 1 : 0);
        }
    }

    private static void payingNothing() {
        Check.promise("nothing, if these are not above 0");
        for (int left = -1; left <= 1; left++) {
            ErrorBudgets x = Check.house(1000, 100);
            x.set(1, 0);
            x.lend(0, 1, 50, 1);
            spend(x, 1, 250 - left);
            int paid = Math.max(0, left);
            x.hours(168);
            Check.due("left", left(x, 1), left - paid);
            Check.due("paid", x.account(1, 6), paid);
            Check.due("got back", x.account(0, 2), paid);
            Check.due("owed", x.ofLoan(0, 3), 55 - paid + (55 - paid) / 5);
            Check.due("due then", x.ofLoan(0, 4), 2);
            x = Check.house(1000, 100);
            x.lend(0, 1, 50, 1);
            spend(x, 1, 150 - left);
            Check.due("still owed", x.repay(0), 55 - paid);
            Check.due("left", left(x, 1), left - paid);
            Check.due("due then", x.ofLoan(0, 4), 1);
            Check.due("got back", x.account(0, 2), paid);
        }
    }

    private static void payingOneAfterTheOther() {
        Check.promise("then of their numbers, each loan that is due is paid back");
        for (int first = 0; first < 2; first++) {
            // 1 owes 110 to 0, and 2 owes 300 to 1: if that is paid before, 1 has more to pay with.
            ErrorBudgets x = Check.house(1000, 100, 1000);
            x.set(1, 0);
            if (first == 0) {
                x.lend(0, 1, 100, 1);
            }
            x.set(2, 0);
            x.set(3, 0);
            x.lend(1, 2, 50, 1);
            x.set(2, 10);
            if (first == 1) {
                x.lend(0, 1, 100, 1);
            }
            x.hours(168);
            Check.due("paid, first " + first, x.account(1, 6), first == 0 ? 100 : 110);
            Check.due("frozen how often", x.ofService(1, 10), first == 0 ? 1 : 0);
            Check.due("got back", x.account(1, 2), 50);
            Check.due("left", left(x, 1), first == 0 ? 50 : 40);
            Check.holds("not frozen then", !frozen(x, 1));
            Check.due("loans", x.count(5), first == 0 ? 1 : 0);
        }
    }

    private static void penaltiesAreRoundedDown() {
        Check.promise("of what is still owed, PENALTY percent more are owed then");
        int[][] rows = {
            {1, 20, 1}, {4, 20, 4}, {5, 20, 6}, {9, 20, 10}, {10, 20, 12}, {1, 99, 1}, {1, 100, 2}, {100, 0, 100},
            {99, 1, 99}, {100, 1, 101}, {101, 99, 200}, {5000, 100, 10000},
        };
        for (int[] row : rows) {
            ErrorBudgets x = Check.house(10000, 10);
            x.set(2, 0);
            x.set(4, row[1]);
            x.lend(0, 1, row[0], 1);
            spend(x, 1, row[0] + 20);
            x.hours(168);
            Check.due(row[0] + " with " + row[1] + " percent", x.ofLoan(0, 3), row[2]);
            Check.due("nothing was paid", x.account(1, 6), 0);
            Check.due("due with the next window", x.ofLoan(0, 4), 2);
            x.hours(167);
            Check.due("not before", x.ofLoan(0, 3), row[2]);
            x.hours(1);
            Check.due("10 more minutes are paid then", x.account(1, 6), Math.min(10, row[2]));
        }
    }

    /** A house in which a loan of 10000 is owed by a service that never has a minute. */
    private static ErrorBudgets debt() {
        ErrorBudgets x = Check.house(10000, 10);
        x.set(0, 12);
        x.set(2, 100);
        x.lend(0, 1, 5000, 1);
        spend(x, 1, 5000 + 30 * 10);
        return x;
    }

    private static void owedHasAMost() {
        Check.promise("but at most 10000000 are owed for a loan");
        // 10000 * 1.25 * 1.25 * 1.25 is 19531; 19531 doubled nine times is 9999872, one tenth more is above the most.
        ErrorBudgets x = debt();
        x.set(4, 25);
        x.hours(36);
        Check.due("owed", x.ofLoan(0, 3), 19531);
        x.set(4, 100);
        x.hours(108);
        Check.due("below the most", x.ofLoan(0, 3), 9999872);
        x.set(4, 0);
        x.hours(12);
        Check.due("below the most", x.ofLoan(0, 3), 9999872);
        x.save(0);
        x.set(4, 1);
        x.hours(12);
        Check.due("the most", x.ofLoan(0, 3), 10000000);
        x.restore(0);
        x.set(4, 100);
        x.hours(12);
        Check.due("the most, from twice as much", x.ofLoan(0, 3), 10000000);
        x.hours(12);
        Check.due("the most, from the most", x.ofLoan(0, 3), 10000000);
        x.set(4, 0);
        x.hours(12);
        Check.due("the most, and no penalty", x.ofLoan(0, 3), 10000000);
        // 10000, 12500, 15625, 31250, 62500, 78125, and doubled seven times: just the most.
        x = debt();
        int[] percents = {25, 25, 100, 100, 25, 100, 100, 100, 100, 100, 100, 100};
        int[] owed = {12500, 15625, 31250, 62500, 78125, 156250, 312500, 625000, 1250000, 2500000, 5000000, 10000000};
        for (int window = 0; window < 12; window++) {
            x.set(4, percents[window]);
            x.hours(12);
            Check.due("owed", x.ofLoan(0, 3), owed[window]);
        }
        x.set(4, 1);
        x.hours(12);
        Check.due("no more than the most", x.ofLoan(0, 3), 10000000);
        Check.due("nothing was paid", x.account(1, 6), 0);
        x.set(6, 10);
        x.lend(0, 1, 1000, 9);
        // -290 at first, 130 were granted with 13 windows, and 1000 are borrowed.
        Check.due("paid ahead of time", x.repay(0), 10000000 - 840);
        Check.due("for each loan", x.ofService(1, 5), 10000000 - 840 + 2000);
        Check.due("to its lender", x.ofService(0, 6), 10000000 - 840 + 2000);
    }

    private static void plansAsFarAsTheyGo() {
        Check.promise("the plans whose hour has come");
        ErrorBudgets x = Check.house(100);
        x.plan(0, 1, 1, 0);
        x.plan(0, 2000, 1, 9);
        x.hours(1);
        Check.due("the next hour", x.ofService(0, 8), 1);
        x.hours(999);
        x.hours(999);
        Check.due("an hour before", x.ofService(0, 8), 1);
        Check.due("it is the only one", x.ofPlan(0, 1), 2000);
        x.hours(1);
        Check.due("2000 hours later", x.ofService(0, 8), 2);
        Check.due("none is left", x.count(6), 0);
    }

    private static void plansInAnHour() {
        Check.promise("the highest priority first, then the earliest hour, then the lowest number");
        // A frozen service has plans of every kind; it thaws for one release at a time.
        int[][] plans = {{5, 1, 0}, {4, 2, 9}, {5, 3, 9}, {4, 4, 9}, {3, 5, 0}, {4, 6, 0}, {3, 7, 5}, {5, 8, 5}, {5, 9, 9}};
        int[] order = {2, 4, 3, 9, 7, 8, 5, 6, 1};
        ErrorBudgets x = Check.house(100, 10000);
        x.set(6, 10);
        x.set(3, 0);
        x.set(5, 300);
        x.set(0, 720);
        x.outage(0, 100, 100);
        for (int[] plan : plans) {
            x.plan(0, plan[0], plan[1], plan[2]);
        }
        x.hours(10);
        Check.due("all wait", x.count(6), 9);
        long spent = 0;
        for (int i = 0; i < order.length; i++) {
            x.lend(1, 0, (int) (1 - left(x, 0)), 9);
            x.hours(1);
            Check.due("the release number " + i, x.account(0, 4) - spent, order[i]);
            Check.due("plans", x.count(6), 8 - i);
            spent = x.account(0, 4);
        }
    }

    private static void patience() {
        Check.promise("it is dropped, if its hour was PATIENCE hours ago or more");
        for (int patience : new int[] {0, 1, 48, 300}) {
            ErrorBudgets x = Check.house(10);
            x.set(0, 720);
            x.set(5, patience);
            x.outage(0, 600, 100);
            x.plan(0, 5, 1, 0);
            x.hours(4);
            Check.due("before its hour", x.count(6), 1);
            if (patience > 0) {
                x.hours(patience);
                Check.due("its hour was an hour too few ago", x.count(6), 1);
                Check.due("waits", x.ofService(0, 9), 0);
            }
            x.hours(1);
            Check.due("PATIENCE hours ago: " + patience, x.count(6), 0);
            Check.due("dropped", x.ofService(0, 9), 1);
            Check.due("not done", x.ofService(0, 8), 0);
        }
        ErrorBudgets x = Check.house(10);
        x.set(5, 300);
        x.outage(0, 600, 100);
        x.plan(0, 5, 1, 0);
        x.plan(0, 95, 1, 0);
        x.hours(100);
        x.set(5, 6);
        x.hours(1);
        Check.due("more hours ago", x.ofService(0, 9), 2);
        x = Check.house(10);
        x.set(5, 300);
        x.outage(0, 600, 100);
        x.plan(0, 5, 1, 0);
        x.plan(0, 95, 1, 0);
        x.hours(100);
        x.set(5, 7);
        x.hours(1);
        Check.due("more hours ago, and 6", x.ofService(0, 9), 1);
        Check.due("the one that waits", x.ofPlan(0, 1), 95);
    }

    private static void thawedPlansAreDone() {
        Check.promise("if the service is not frozen, the release is done (however late it is)");
        ErrorBudgets x = Check.house(100);
        x.outage(0, 100, 100);
        x.plan(0, 168 - 48, 30, 0);
        x.hours(167);
        Check.due("47 hours ago", x.count(6), 1);
        x.hours(1);
        Check.due("48 hours ago, but thawed by the window", x.ofService(0, 8), 1);
        Check.due("not dropped", x.ofService(0, 9), 0);
        x = Check.house(100, 1000);
        x.outage(0, 100, 100);
        x.plan(0, 10, 30, 0);
        x.hours(40);
        x.set(5, 0);
        x.lend(1, 0, 50, 9);
        x.hours(1);
        Check.due("31 hours ago, but thawed by a loan", x.ofService(0, 8), 1);
        // What is due is paid before the plans' turn.
        x = Check.house(1000, 100);
        x.set(1, 0);
        x.lend(0, 1, 100, 1);
        x.plan(1, 168, 5, 0);
        x.hours(168);
        Check.due("frozen by what is due", x.ofService(1, 8), 0);
        Check.due("it waits", x.ofService(1, 7), 1);
    }

    private static void frozenByARelease() {
        Check.promise("a service that is frozen by one release does no later one in this hour");
        ErrorBudgets x = Check.house(100, 100);
        x.plan(0, 5, 99, 9);
        x.plan(0, 5, 1, 8);
        x.plan(0, 5, 1, 7);
        x.plan(1, 5, 1, 0);
        x.hours(5);
        Check.due("99 leave 1, and 1 leaves 0", x.ofService(0, 8), 2);
        Check.due("the third waits", x.ofService(0, 7), 1);
        Check.due("of another service it is done", x.ofService(1, 8), 1);
        x = Check.house(100);
        x.set(5, 0);
        x.plan(0, 5, 100, 9);
        x.plan(0, 5, 1, 8);
        x.hours(5);
        Check.due("the later one is dropped at once, without patience", x.ofService(0, 9), 1);
        Check.due("plans", x.count(6), 0);
        x = Check.house(100);
        x.plan(0, 5, 200, 0);
        x.hours(5);
        Check.due("a release as large as can be", left(x, 0), -100);
        Check.due("exemptions are not for plans", x.ofService(0, 2), 1);
    }

    private static void reasonsStay() {
        Check.promise("the reason is 0 at first, and stays until the next REFUSED");
        ErrorBudgets x = Check.house(100, 100);
        Check.due("at first", x.count(7), 0);
        x.release(5, 1, 1);
        x.release(0, 0, 1);
        x.lend(0, 0, 1, 1);
        x.lend(0, 1, 0, 1);
        Check.due("other errors", x.count(7), 0);
        x.bestLender(0, 5000);
        Check.due("what if", x.count(7), 0);
        Check.due("short", x.lend(0, 1, 90, 1), REFUSED);
        x.save(0);
        x.lend(0, 1, 1, 1);
        x.repay(0);
        x.release(0, 1, 0);
        x.hours(500);
        x.undo();
        x.restore(0);
        Check.carryOut(x, "h1;o0*1%1;x5");
        x.put(0);
        x.lend(0, 1, 0, 1);
        Check.due("it stays", x.count(7), 3);
        x.outage(0, 600, 100);
        Check.due("no order is refused", Check.carryOut(x, "h1;r1*1"), 2);
        Check.due("it stays", x.count(7), 3);
        Check.due("an order is", Check.carryOut(x, "h1;l0>1*1/1;h1"), 1);
        Check.due("the next", x.count(7), 2);
        Check.due("an order of a text", Check.carryOut(x, "r0*1!;r0*1!"), 1);
        Check.due("the next", x.count(7), 1);
        x.set(6, 0);
        Check.due("full", x.lend(1, 0, 1, 1), REFUSED);
        Check.due("the next", x.count(7), 4);
    }

    private static void firstReasonThatApplies() {
        Check.promise("the reason is the first of these that applies");
        for (int applies = 1; applies < 8; applies++) {
            ErrorBudgets x = Check.house(100, 100, 1000);
            x.set(6, (applies & 4) != 0 ? 0 : 10);
            x.set(3, 0);
            if ((applies & 1) != 0) {
                spend(x, 0, 100);
                x.set(3, 50);
                // Frozen, but with enough for one minute, or not.
                x.set(6, 10);
                x.lend(2, 0, (applies & 2) != 0 ? 1 : 50, 1);
                x.set(3, 0);
                x.set(6, (applies & 4) != 0 ? 0 : 10);
            } else if ((applies & 2) != 0) {
                spend(x, 0, 99);
            }
            int due = (applies & 1) != 0 ? 2 : (applies & 2) != 0 ? 3 : 4;
            Check.due("refused", x.lend(0, 1, 1, 1), REFUSED);
            Check.due("the reason, where " + applies + " apply", x.count(7), due);
        }
    }

    private static void refusedChangesNothing() {
        Check.promise("a call that returns REFUSED changes nothing but the reason");
        for (int reason = 1; reason <= 4; reason++) {
            ErrorBudgets x = Check.house(100, 100);
            x.hours(5);
            x.save(0);
            x.plan(0, 9, 1, 0);
            x.lend(1, 0, 1, 1);
            x.outage(0, reason <= 2 ? 101 : 50, 100);
            x.set(6, reason == 4 ? 0 : 3);
            Check.type(x, "h1");
            String before = Check.picture(x);
            Check.due("refused", reason == 1 ? x.release(0, 1, 0) : x.lend(0, 1, reason == 3 ? 41 : 1, 1), REFUSED);
            Check.due("the reason", x.count(7), reason);
            Check.holds("nothing else", Check.picture(x).equals(before));
            Check.due("the pad", x.count(8), 2);
            Check.due("changes", x.count(9), 6);
            Check.due("undo", x.undo(), 5);
            Check.due("the setting before", x.count(16), 3);
            Check.due("undo", x.undo(), 4);
            Check.due("the minutes before", left(x, 0), 101);
            Check.due("restore", x.restore(0), 5);
            Check.due("as saved", left(x, 0), 100);
        }
    }

    private static void accountsAddUp() {
        Check.promise("0, 1 and 2 together are 3 to 8 together");
        ErrorBudgets x = Check.house(10000, 100, 10, 50, 5000, 77, 13, 10);
        x.set(0, 12);
        x.set(6, 10);
        for (int service = 1; service < 8; service++) {
            x.lend(0, service, 100 * service, service);
            x.lend(4, service == 4 ? 0 : service, 30, 2);
            x.plan(service, 20, 10 * service, service);
            x.outage(service, 100 * service - 60, 77);
        }
        for (int look = 0; look < 4; look++) {
            for (int service = 0; service < 8; service++) {
                long in = 0;
                long out = 0;
                for (int what = 0; what <= 8; what++) {
                    in += what <= 2 ? x.account(service, what) : 0;
                    out += what > 2 ? x.account(service, what) : 0;
                }
                Check.due("the accounts of " + service, out, in);
            }
            x.hours(look == 0 ? 11 : look == 1 ? 1 : 500);
        }
    }

    private static void longestLife() {
        Check.promise("an object is used for at most 512 calls");
        ErrorBudgets x = new ErrorBudgets();
        x.service(10000);
        x.set(0, 12);
        x.set(1, 0);
        for (int call = 4; call <= 509; call++) {
            Check.due("hours", x.hours(1000), 1000 * (call - 3));
        }
        long windows = 506000 / 12;
        Check.due("granted", x.account(0, 0), 10000 * (windows + 1));
        Check.due("lapsed", x.account(0, 7), 10000 * windows);
        Check.due("the call 512", x.count(1), windows);
    }
}
