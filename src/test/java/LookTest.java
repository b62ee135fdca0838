/** Promises 12 to 16: ofService, account, ofLoan, ofPlan, count. */
public final class LookTest {
    public static void main(String[] args) {
        ofService();
        account();
        ofLoan();
        ofPlan();
        count();
        lookingChangesNothing();
        Check.end("LookTest");
    }

    /** Service 0 borrowed from 1 and 2, and 1 from 2; 0 is frozen, was so before, and has plans. */
    private static ErrorBudgets house() {
        ErrorBudgets x = Check.house(100, 1000, 2000);
        x.set(7, 3);
        x.outage(0, 100, 100);
        x.lend(1, 0, 40, 1);
        x.lend(2, 0, 60, 3);
        x.lend(2, 1, 100, 4);
        x.release(0, 100, 0);
        x.release(0, 7, 1);
        x.plan(0, 3, 20, 1);
        x.plan(0, 9, 30, 2);
        x.plan(1, 9, 40, 3);
        return x;
    }

    private static void ofService() {
        Check.promise("12 ofService");
        ErrorBudgets x = house();
        long[][] due = {
            {100, 1, 0, 2, 0, 44 + 66, 0, 2, 2, 0, 2},
            {1000, 0, 1, 1, 1, 110, 44, 1, 0, 0, 0},
            {2000, 0, 1, 0, 2, 0, 66 + 110, 0, 0, 0, 0},
        };
        for (int service = 0; service < 3; service++) {
            for (int what = 0; what <= 10; what++) {
                Check.due("ofService(" + service + ", " + what + ")", x.ofService(service, what), due[service][what]);
            }
            Check.due("what", x.ofService(service, 11), -2);
            Check.due("what", x.ofService(service, -1), -2);
            Check.due("what", x.ofService(service, Integer.MIN_VALUE), -2);
        }
        Check.due("no such service", x.ofService(3, 0), -1);
        Check.due("no such service", x.ofService(8, 0), -1);
        Check.due("no such service", x.ofService(-1, 99), -1);
        x.hours(51);
        Check.due("dropped by an hour", x.ofService(0, 9), 1);
        Check.due("plans", x.ofService(0, 7), 1);
        Check.due("releases of plans", x.ofService(1, 8), 1);
    }

    private static void account() {
        Check.promise("13 account");
        ErrorBudgets x = house();
        long[][] due = {
            {100, 100, 0, 100, 107, 0, 0, 0, -7},
            {1000, 100, 0, 0, 0, 40, 0, 0, 1060},
            {2000, 0, 0, 0, 0, 160, 0, 0, 1840},
        };
        for (int service = 0; service < 3; service++) {
            for (int what = 0; what <= 8; what++) {
                Check.due("account(" + service + ", " + what + ")", x.account(service, what), due[service][what]);
            }
            Check.due("what", x.account(service, 9), -2);
            Check.due("what", x.account(service, -1), -2);
            Check.due("what", x.account(service, Integer.MAX_VALUE), -2);
        }
        Check.due("no such service", x.account(3, 0), -1);
        Check.due("no such service", x.account(-1, 99), -1);
        x.hours(1000);
        x.outage(2, 600, 77);
        for (int service = 0; service < 3; service++) {
            long in = x.account(service, 0) + x.account(service, 1) + x.account(service, 2);
            long out = 0;
            for (int what = 3; what <= 8; what++) {
                out += x.account(service, what);
            }
            Check.due("the accounts of " + service + " add up", out, in);
        }
        x = Check.house(10);
        x.outage(0, 11, 100);
        Check.due("-1 left", x.account(0, 8), -1);
    }

    private static void ofLoan() {
        Check.promise("14 ofLoan");
        ErrorBudgets x = house();
        long[][] due = {{1, 0, 40, 44, 1}, {2, 0, 60, 66, 3}, {2, 1, 100, 110, 4}};
        for (int loan = 0; loan < 3; loan++) {
            for (int what = 0; what <= 4; what++) {
                Check.due("ofLoan(" + loan + ", " + what + ")", x.ofLoan(loan, what), due[loan][what]);
            }
            Check.due("what", x.ofLoan(loan, 5), -2);
            Check.due("what", x.ofLoan(loan, -1), -2);
        }
        Check.due("no such loan", x.ofLoan(3, 0), -1);
        Check.due("no such loan", x.ofLoan(40, 0), -1);
        Check.due("no such loan", x.ofLoan(-1, 99), -1);
    }

    private static void ofPlan() {
        Check.promise("15 ofPlan");
        ErrorBudgets x = house();
        long[][] due = {{0, 3, 20, 1}, {0, 9, 30, 2}, {1, 9, 40, 3}};
        for (int plan = 0; plan < 3; plan++) {
            for (int what = 0; what <= 3; what++) {
                Check.due("ofPlan(" + plan + ", " + what + ")", x.ofPlan(plan, what), due[plan][what]);
            }
            Check.due("what", x.ofPlan(plan, 4), -2);
            Check.due("what", x.ofPlan(plan, -1), -2);
        }
        Check.due("no such plan", x.ofPlan(3, 0), -1);
        Check.due("no such plan", x.ofPlan(30, 0), -1);
        Check.due("no such plan", x.ofPlan(-1, 99), -1);
    }

    private static void count() {
        Check.promise("16 count");
        ErrorBudgets x = house();
        x.outage(1, 600, 100);
        x.outage(1, 600, 100);
        x.release(1, 1, 0);
        x.set(0, 20);
        x.hours(1);
        x.hours(2);
        x.set(5, 77);
        Check.type(x, "o1*2");
        int[] due = {3, 0, 0, 3, 3, 3, 3, 1, 4, 6, 20, 25, 10, 10, 20, 77, 3, 3};
        for (int what = 0; what < 18; what++) {
            Check.due("count(" + what + ")", x.count(what), due[what]);
        }
        Check.due("what", x.count(18), -2);
        Check.due("what", x.count(-1), -2);
        Check.due("what", x.count(Integer.MAX_VALUE), -2);
        Check.due("what", x.count(Integer.MIN_VALUE), -2);
        x.hours(20);
        Check.due("window", x.count(1), 1);
        Check.due("began", x.count(2), 20);
        x = Check.house(10, 10, 10, 10, 10, 10, 10, 10);
        x.outage(1, 10, 100);
        x.outage(7, 10, 100);
        Check.due("frozen", x.count(4), 2 + 128);
    }

    private static void lookingChangesNothing() {
        Check.promise("12 to 23 change nothing");
        ErrorBudgets x = house();
        x.hours(2);
        String before = Check.picture(x);
        int changes = x.count(9);
        for (int number = -1; number < 4; number++) {
            x.leftIn(number, 500);
            x.frozenIn(number);
            x.thawsIn(number);
            x.doneAt(number);
            x.bestLender(number, 3000);
            x.leastLoan(number);
            x.safeSize(number);
        }
        Check.holds("nothing is different", Check.picture(x).equals(before));
        Check.due("no change", x.count(9), changes);
        Check.due("no reason", x.count(7), 0);
    }
}
