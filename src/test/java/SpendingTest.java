/** Promises 5 to 8: outage, release, lend, repay. */
public final class SpendingTest {
    public static void main(String[] args) {
        outage();
        release();
        releaseOfAFrozenService();
        lend();
        lendIsRefused();
        lendHasALimit();
        repay();
        repayAsFarAsItCan();
        Check.end("SpendingTest");
    }

    private static void outage() {
        Check.promise("5 outage");
        ErrorBudgets x = Check.house(1000, 50);
        Check.due("no such service", x.outage(2, 1, 1), -1);
        Check.due("no such service", x.outage(-1, 0, 0), -1);
        Check.due("minutes", x.outage(0, 0, 1), -2);
        Check.due("minutes", x.outage(0, 601, 1), -2);
        Check.due("share", x.outage(0, 1, 0), -2);
        Check.due("share", x.outage(0, 1, 101), -2);
        Check.due("share", x.outage(0, 1, Integer.MIN_VALUE), -2);
        Check.due("minutes", x.outage(0, Integer.MAX_VALUE, 100), -2);
        Check.due("changes", x.count(9), 2);
        Check.due("rounded up", x.outage(0, 1, 1), 0);
        Check.due("left", x.account(0, 8), 999);
        Check.due("a round share", x.outage(0, 100, 50), 0);
        Check.due("left", x.account(0, 8), 949);
        Check.due("51 * 50 / 100 rounded up", x.outage(0, 51, 50), 0);
        Check.due("left", x.account(0, 8), 923);
        Check.due("most", x.outage(0, 600, 100), 0);
        Check.due("spent by outages", x.account(0, 3), 677);
        Check.due("spent by releases", x.account(0, 4), 0);
        Check.due("to 1", x.outage(0, 322, 100), 0);
        Check.due("to 0", x.outage(0, 1, 100), 1);
        Check.due("below 0", x.outage(0, 600, 100), 1);
        Check.due("left", x.account(0, 8), -600);
        Check.due("frozen once", x.ofService(0, 10), 1);
        Check.due("the other one", x.account(1, 8), 50);
        Check.due("frozen", x.count(4), 1);
    }

    private static void release() {
        Check.promise("6 release");
        ErrorBudgets x = Check.house(1000);
        Check.due("no such service", x.release(1, 1, 0), -1);
        Check.due("no such service", x.release(-1, 0, 5), -1);
        Check.due("size", x.release(0, 0, 0), -2);
        Check.due("size", x.release(0, 201, 0), -2);
        Check.due("exempt", x.release(0, 1, 2), -2);
        Check.due("exempt", x.release(0, 1, -1), -2);
        Check.due("changes", x.count(9), 1);
        Check.due("least", x.release(0, 1, 0), 0);
        Check.due("most", x.release(0, 200, 0), 0);
        Check.due("no exemption is needed", x.release(0, 3, 1), 0);
        Check.due("none is used", x.ofService(0, 2), 1);
        Check.due("releases", x.ofService(0, 8), 3);
        Check.due("spent by releases", x.account(0, 4), 204);
        Check.due("spent by outages", x.account(0, 3), 0);
        Check.due("left", x.account(0, 8), 796);
        Check.due("changes", x.count(9), 4);
    }

    private static void releaseOfAFrozenService() {
        Check.promise("6 release of a frozen service");
        ErrorBudgets x = new ErrorBudgets();
        x.set(7, 2);
        x.service(100);
        Check.due("to below 0", x.release(0, 150, 0), 0);
        Check.due("frozen", x.ofService(0, 1), 1);
        Check.due("no reason yet", x.count(7), 0);
        int changes = x.count(9);
        Check.due("no exemption is to be used", x.release(0, 5, 0), -5);
        Check.due("reason", x.count(7), 1);
        Check.due("bad before refused", x.release(0, 0, 0), -2);
        Check.due("no change", x.count(9), changes);
        Check.due("exempt", x.release(0, 5, 1), 1);
        Check.due("exempt", x.release(0, 6, 1), 1);
        Check.due("none is left", x.ofService(0, 2), 0);
        Check.due("refused", x.release(0, 7, 1), -5);
        Check.due("left", x.account(0, 8), -61);
        Check.due("releases", x.ofService(0, 8), 3);
        Check.due("frozen once", x.ofService(0, 10), 1);
        x.hours(168);
        Check.due("exemptions of the new window", x.ofService(0, 2), 2);
    }

    private static void lend() {
        Check.promise("7 lend");
        ErrorBudgets x = Check.house(1000, 100, 100);
        Check.due("no such lender", x.lend(3, 0, 1, 1), -1);
        Check.due("no such lender", x.lend(-1, 0, 0, 0), -1);
        Check.due("no such borrower", x.lend(0, 3, 1, 1), -1);
        Check.due("no such borrower", x.lend(0, -1, 1, 1), -1);
        Check.due("both the same", x.lend(0, 0, 1, 1), -1);
        Check.due("minutes", x.lend(0, 1, 0, 1), -2);
        Check.due("minutes", x.lend(0, 1, 5001, 1), -2);
        Check.due("windows", x.lend(0, 1, 1, 0), -2);
        Check.due("windows", x.lend(0, 1, 1, 10), -2);
        Check.due("changes", x.count(9), 3);
        Check.due("reason", x.count(7), 0);
        Check.due("a loan", x.lend(0, 1, 109, 9), 0);
        Check.due("lender", x.ofLoan(0, 0), 0);
        Check.due("borrower", x.ofLoan(0, 1), 1);
        Check.due("minutes", x.ofLoan(0, 2), 109);
        Check.due("109 + 109 * 10 / 100", x.ofLoan(0, 3), 119);
        Check.due("due", x.ofLoan(0, 4), 9);
        Check.due("lent", x.account(0, 5), 109);
        Check.due("lender's left", x.account(0, 8), 891);
        Check.due("borrowed", x.account(1, 1), 109);
        Check.due("borrower's left", x.account(1, 8), 209);
        x.hours(168);
        x.set(2, 0);
        Check.due("without interest, in the window 1", x.lend(0, 2, 9, 2), 1);
        Check.due("owed", x.ofLoan(1, 3), 9);
        Check.due("due", x.ofLoan(1, 4), 3);
        Check.due("the older one keeps its interest", x.ofLoan(0, 3), 119);
        ErrorBudgets y = Check.house(10000, 10);
        y.set(2, 100);
        Check.due("the largest", y.lend(0, 1, 5000, 1), 0);
        Check.due("owed", y.ofLoan(0, 3), 10000);
    }

    private static void lendIsRefused() {
        Check.promise("7 lend is refused");
        ErrorBudgets x = Check.house(100, 100);
        Check.due("10 would be left, not more", x.lend(0, 1, 90, 1), -5);
        Check.due("reason", x.count(7), 3);
        Check.due("11 would be left", x.lend(0, 1, 89, 1), 0);
        Check.due("not frozen by it", x.ofService(0, 1), 0);
        x.outage(0, 11, 100);
        Check.due("lender is frozen", x.lend(0, 1, 1, 1), -5);
        Check.due("reason", x.count(7), 2);
        x.set(6, 0);
        Check.due("lender is frozen and borrower full", x.lend(0, 1, 1, 1), -5);
        Check.due("the first reason", x.count(7), 2);
        Check.due("borrower full", x.lend(1, 0, 1, 1), -5);
        Check.due("reason", x.count(7), 4);
        Check.due("short and full", x.lend(1, 0, 5000, 1), -5);
        Check.due("the first reason", x.count(7), 3);
        x.undo();
        Check.due("undo leaves the reason", x.count(7), 3);
        Check.due("borrower thaws", x.lend(1, 0, 20, 1), 1);
        Check.due("borrower is not frozen", x.ofService(0, 1), 0);
        Check.due("success leaves the reason", x.count(7), 3);
        x = Check.house(1000, 100);
        x.set(6, 2);
        x.lend(0, 1, 1, 1);
        x.lend(0, 1, 1, 1);
        int changes = x.count(9);
        String before = Check.picture(x);
        Check.due("a third", x.lend(0, 1, 1, 1), -5);
        Check.due("reason", x.count(7), 4);
        Check.due("no change", x.count(9), changes);
        Check.holds("nothing changed", Check.picture(x).equals(before));
        Check.due("as a lender it may", x.lend(1, 0, 1, 1), 2);
    }

    private static void lendHasALimit() {
        Check.promise("7 lend has a limit of 40 loans");
        ErrorBudgets x = Check.house(10000, 10000, 10000, 10000, 10000, 10000);
        x.set(6, 10);
        for (int loan = 0; loan < 40; loan++) {
            Check.due("a loan", x.lend(5, loan / 10, 1, 9), loan);
        }
        Check.due("one more", x.lend(5, 4, 1, 1), -4);
        Check.due("bad before too many", x.lend(5, 4, 0, 1), -2);
        Check.due("too many before refused", x.lend(5, 0, 5000, 1), -4);
        Check.due("no reason", x.count(7), 0);
        Check.due("loans", x.count(5), 40);
        Check.due("nobody could lend", x.bestLender(4, 1), -6);
        Check.due("paid back", x.repay(39), 0);
        Check.due("again", x.lend(5, 4, 1, 1), 39);
    }

    private static void repay() {
        Check.promise("8 repay");
        ErrorBudgets x = Check.house(1000, 100, 100);
        x.lend(0, 1, 100, 3);
        x.lend(0, 2, 50, 3);
        Check.due("no such loan", x.repay(2), -1);
        Check.due("no such loan", x.repay(-1), -1);
        Check.due("no such loan", x.repay(Integer.MAX_VALUE), -1);
        Check.due("changes", x.count(9), 5);
        Check.due("all", x.repay(0), 0);
        Check.due("changes", x.count(9), 6);
        Check.due("borrower's left", x.account(1, 8), 90);
        Check.due("paid back", x.account(1, 6), 110);
        Check.due("lender's left", x.account(0, 8), 960);
        Check.due("got back", x.account(0, 2), 110);
        Check.due("loans", x.count(5), 1);
        Check.due("the later one's number decreases", x.ofLoan(0, 1), 2);
        Check.due("owed", x.ofLoan(0, 3), 55);
        Check.due("due", x.ofLoan(0, 4), 3);
        Check.due("lent minutes", x.ofLoan(0, 2), 50);
        Check.due("no such loan any more", x.repay(1), -1);
        x.lend(0, 1, 20, 5);
        x.repay(0);
        Check.due("the later one keeps its window", x.ofLoan(0, 4), 5);
    }

    private static void repayAsFarAsItCan() {
        Check.promise("8 repay as far as it can");
        ErrorBudgets x = Check.house(1000, 100);
        x.lend(0, 1, 300, 3);
        x.outage(1, 200, 100);
        Check.due("200 of 330", x.repay(0), 130);
        Check.due("frozen by paying", x.ofService(1, 1), 1);
        Check.due("frozen once", x.ofService(1, 10), 1);
        Check.due("left", x.account(1, 8), 0);
        Check.due("nothing to pay with", x.repay(0), 130);
        Check.due("a change all the same", x.undo(), 5);
        x.outage(1, 20, 100);
        Check.due("nothing below 0", x.repay(0), 130);
        Check.due("left", x.account(1, 8), -20);
        Check.due("lender's left", x.account(0, 8), 900);
        Check.due("due as before", x.ofLoan(0, 4), 3);
        x = Check.house(1000, 100);
        x.lend(0, 1, 300, 3);
        x.outage(0, 600, 100);
        x.outage(0, 100, 100);
        Check.due("lender frozen", x.ofService(0, 1), 1);
        x.outage(1, 299, 100);
        Check.due("101 of 330", x.repay(0), 229);
        Check.due("lender thaws by 101", x.ofService(0, 1), 0);
        x = Check.house(1000, 100);
        x.lend(0, 1, 300, 3);
        x.outage(0, 600, 100);
        x.outage(0, 100, 100);
        x.outage(1, 300, 100);
        x.repay(0);
        Check.due("lender does not thaw by 100", x.ofService(0, 1), 1);
        // Where 0 minutes are paid, the lender does not thaw either, though it has enough (the setting changed).
        x = Check.house(100, 100, 1000);
        x.lend(0, 1, 10, 3);
        x.outage(0, 90, 100);
        x.lend(2, 0, 5, 3);
        x.outage(1, 110, 100);
        x.set(3, 0);
        Check.due("nothing is paid", x.repay(0), 11);
        Check.due("the lender with 5 minutes stays frozen", x.ofService(0, 1), 1);
        Check.due("the borrower has 0 minutes", x.account(1, 8), 0);
        // A frozen service that has more than its limit (the setting changed) thaws by paying, too.
        x = Check.house(1000, 1000);
        x.outage(1, 600, 100);
        x.outage(1, 400, 100);
        x.lend(0, 1, 100, 1);
        x.lend(0, 1, 1, 1);
        x.outage(1, 101, 100);
        x.lend(0, 1, 20, 1);
        x.set(3, 0);
        Check.due("frozen with 20", x.ofService(1, 1), 1);
        Check.due("1 is paid", x.repay(1), 0);
        Check.due("thawed with 19", x.ofService(1, 1), 0);
    }
}
