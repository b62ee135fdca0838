import java.util.ArrayList;
import java.util.List;

/**
 * Every argument of every method: the smallest and the greatest value that is taken, the ones just beyond them and
 * numbers far outside; the errors in the order in which a method names them; and that an error changes nothing.
 */
public final class RangesTest {
    private static final int NO_SUCH = -1, BAD_VALUE = -2, TOO_MANY = -4, NONE = -6;
    private static final int SERVICES = 4, LOANS = 3, PLANS = 3, HOUR = 7;

    /** What an argument may be, what is usual here, and the error if it is something else. */
    private record Range(long lowest, long highest, long usual, int error) {
    }

    private record Method(String name, List<Range> ranges) {
    }

    private static final Range SERVICE = new Range(0, SERVICES - 1, 1, NO_SUCH);
    private static final Range LOAN = new Range(0, LOANS - 1, 1, NO_SUCH);
    private static final Range PLAN = new Range(0, PLANS - 1, 1, NO_SUCH);
    private static final Range SLOT = new Range(0, 1, 1, NO_SUCH);
    private static final Range BUDGET = bad(10, 10000);
    private static final Range SIZE = bad(1, 200);

    public static void main(String[] args) {
        List<Method> methods = methods();
        for (Method method : methods) {
            Check.promise("the ranges of " + method.name);
            for (int argument = 0; argument < method.ranges.size(); argument++) {
                ends(method, argument);
                beyond(method, argument);
            }
            inOrder(method, "in a house with room", house());
            inOrder(method, "in a full house", fullHouse());
        }
        fullHouseTakesNoMore();
        Check.end("RangesTest");
    }

    private static Range bad(long lowest, long highest) {
        return new Range(lowest, highest, (lowest + highest) / 2, BAD_VALUE);
    }

    private static List<Method> methods() {
        List<Method> all = new ArrayList<>();
        int[] lowest = {12, 0, 0, 0, 0, 0, 0, 0};
        int[] highest = {720, 100, 100, 100, 100, 300, 10, 9};
        for (int setting = 0; setting < 8; setting++) {
            all.add(new Method("set", List.of(new Range(0, 7, setting, BAD_VALUE), bad(lowest[setting], highest[setting]))));
        }
        all.add(new Method("service", List.of(BUDGET)));
        all.add(new Method("budget", List.of(SERVICE, BUDGET)));
        all.add(new Method("outage", List.of(SERVICE, bad(1, 600), bad(1, 100))));
        all.add(new Method("release", List.of(SERVICE, SIZE, bad(0, 1))));
        all.add(new Method("lend", List.of(SERVICE, new Range(0, SERVICES - 1, 2, NO_SUCH), bad(1, 5000), bad(1, 9))));
        all.add(new Method("repay", List.of(LOAN)));
        all.add(new Method("plan", List.of(SERVICE, bad(HOUR + 1, HOUR + 2000), SIZE, bad(0, 9))));
        all.add(new Method("drop", List.of(PLAN)));
        all.add(new Method("hours", List.of(bad(1, 1000))));
        all.add(new Method("ofService", List.of(SERVICE, bad(0, 10))));
        all.add(new Method("account", List.of(SERVICE, bad(0, 8))));
        all.add(new Method("ofLoan", List.of(LOAN, bad(0, 4))));
        all.add(new Method("ofPlan", List.of(PLAN, bad(0, 3))));
        all.add(new Method("count", List.of(bad(0, 17))));
        all.add(new Method("leftIn", List.of(SERVICE, bad(1, 1000))));
        all.add(new Method("frozenIn", List.of(SERVICE)));
        all.add(new Method("thawsIn", List.of(SERVICE)));
        all.add(new Method("doneAt", List.of(PLAN)));
        all.add(new Method("bestLender", List.of(SERVICE, bad(1, 5000))));
        all.add(new Method("leastLoan", List.of(SERVICE)));
        all.add(new Method("safeSize", List.of(SERVICE)));
        all.add(new Method("save", List.of(SLOT)));
        all.add(new Method("restore", List.of(SLOT)));
        return all;
    }

    /** Rich services, so that nothing is refused; loans, plans, six changes that can be undone, both slots, a pad. */
    private static ErrorBudgets house() {
        ErrorBudgets x = Check.house(10000, 10000, 10000, 10000);
        x.save(0);
        x.hours(HOUR);
        x.plan(0, 20, 3, 1);
        x.plan(3, 2000, 4, 2);
        x.plan(1, 300, 5, 3);
        x.save(1);
        x.lend(0, 1, 30, 1);
        x.lend(3, 2, 20, 2);
        x.lend(1, 0, 10, 3);
        Check.type(x, "h1;o0*5%5");
        return x;
    }

    /** Eight services, all of them frozen, 40 loans, 30 plans, 80 characters. */
    private static ErrorBudgets fullHouse() {
        ErrorBudgets x = Check.house(100, 100, 100, 100, 10, 10, 10, 10);
        x.set(6, 10);
        x.set(7, 0);
        x.hours(HOUR);
        for (int loan = 0; loan < 40; loan++) {
            x.lend(loan / 10, 4 + loan % 4, 1, 9);
        }
        for (int plan = 0; plan < 30; plan++) {
            x.plan(plan % 8, 500 + plan, 1, plan % 10);
        }
        for (int service = 0; service < 8; service++) {
            x.outage(service, 600, 100);
        }
        x.save(0);
        x.save(1);
        Check.type(x, "h1000;".repeat(13) + "h1");
        return x;
    }

    private static void fullHouseTakesNoMore() {
        Check.promise("a full house");
        ErrorBudgets x = fullHouse();
        Check.due("services", x.count(3), 8);
        Check.due("frozen", x.count(4), 255);
        Check.due("loans", x.count(5), 40);
        Check.due("plans", x.count(6), 30);
        Check.due("the pad", x.count(8), 80);
        Check.due("service", x.service(10), TOO_MANY);
        Check.due("lend, before it is refused", x.lend(0, 1, 1, 1), TOO_MANY);
        Check.due("lend, before it is refused", x.lend(7, 6, 5000, 9), TOO_MANY);
        Check.due("plan", x.plan(0, HOUR + 1, 1, 0), TOO_MANY);
        Check.due("plan", x.plan(7, HOUR + 2000, 200, 9), TOO_MANY);
        Check.due("put", x.put('1'), TOO_MANY);
        Check.due("nobody could lend", x.bestLender(0, 1), NONE);
        Check.due("no reason", x.count(7), 0);
        Check.due("changes", x.count(9), 6);
        Check.due("the pad", x.count(8), 80);
        same("what is too many", x, fullHouse());
    }

    private static long[] usual(Method method) {
        long[] arguments = new long[method.ranges.size()];
        for (int i = 0; i < arguments.length; i++) {
            arguments[i] = method.ranges.get(i).usual;
        }
        return arguments;
    }

    private static String told(Method method, long[] arguments) {
        StringBuilder told = new StringBuilder(method.name).append('(');
        for (int i = 0; i < arguments.length; i++) {
            told.append(i == 0 ? "" : ", ").append(arguments[i]);
        }
        return told.append(')').toString();
    }

    /** The smallest and the greatest value are taken. */
    private static void ends(Method method, int argument) {
        Range range = method.ranges.get(argument);
        if (method.name.equals("set") && argument == 0) {
            // Each setting has a row of its own, because each one takes other values.
            return;
        }
        for (long value : new long[] {range.lowest, range.highest, range.usual}) {
            long[] arguments = usual(method);
            arguments[argument] = value;
            if (method.name.equals("lend") && argument < 2) {
                arguments[1 - argument] = 1;
                arguments[argument] = value == 1 ? 2 : value;
            }
            ErrorBudgets x = house();
            long answer = Calls.ask(x, method.name, arguments);
            boolean none = answer == NONE && List.of("frozenIn", "doneAt").contains(method.name);
            Check.holds(told(method, arguments) + " is no error, but " + answer, answer >= 0 || none);
        }
    }

    /** Numbers beyond a range: the nearest ones, far ones, and those that are in it when bits are cut off. */
    private static List<Long> outside(Range range) {
        int lowest = (int) range.lowest;
        int highest = (int) range.highest;
        int[] values = {
            lowest - 1, highest + 1, lowest - 2, highest + 2, -lowest, -highest, -1, ~lowest, ~highest,
            lowest + 256, highest + 256, lowest - 256, lowest + 65536, highest - 65536, lowest + (1 << 24),
            lowest ^ 1 << 31, highest ^ 1 << 31, lowest ^ 1 << 30, 20000, -20000, 1000000, 1000000000, -1000000000,
            Integer.MAX_VALUE, Integer.MAX_VALUE - 1, Integer.MIN_VALUE, Integer.MIN_VALUE + 1,
        };
        List<Long> outside = new ArrayList<>();
        for (int value : values) {
            if (value < lowest || value > highest) {
                outside.add((long) value);
            }
        }
        return outside;
    }

    /** Values beyond a range are errors, which change nothing at all. */
    private static void beyond(Method method, int argument) {
        Range range = method.ranges.get(argument);
        ErrorBudgets x = house();
        ErrorBudgets full = fullHouse();
        for (long value : outside(range)) {
            long[] arguments = usual(method);
            arguments[argument] = value;
            Check.due(told(method, arguments), Calls.ask(x, method.name, arguments), range.error);
            // In the full house there are more services, loans and plans, so the values near the range are no errors.
            if (Math.abs(value) > 100000) {
                Check.due(told(method, arguments) + ", full", Calls.ask(full, method.name, arguments), range.error);
            }
        }
        same(method.name, x, house());
        same(method.name + " in a full house", full, fullHouse());
    }

    /** Of several wrong arguments those decide whose error is named first: NO_SUCH, then BAD_VALUE. */
    private static void inOrder(Method method, String where, ErrorBudgets x) {
        boolean full = where.equals("in a full house");
        int arguments = method.ranges.size();
        for (int wrong = 1; wrong < 1 << arguments; wrong++) {
            for (int far : new int[] {Integer.MIN_VALUE, -1000000, 1000000, Integer.MAX_VALUE}) {
                long[] values = usual(method);
                int due = BAD_VALUE;
                for (int i = 0; i < arguments; i++) {
                    if ((wrong >> i & 1) == 1) {
                        values[i] = far;
                        due = Math.max(due, method.ranges.get(i).error);
                    }
                }
                Check.due(told(method, values) + " " + where, Calls.ask(x, method.name, values), due);
            }
        }
        Check.due("the reason " + where, x.count(7), 0);
        Check.due("changes " + where, x.count(9), 6);
        same(method.name + " " + where, x, full ? fullHouse() : house());
    }

    private static void same(String what, ErrorBudgets x, ErrorBudgets untouched) {
        Check.holds(what + ": errors change nothing", deep(x).equals(deep(untouched)));
    }

    /** Much of what an object holds, its pad, reason, history and slots too; the object is used up by this. */
    private static String deep(ErrorBudgets x) {
        StringBuilder deep = new StringBuilder();
        deep.append(x.count(7)).append(' ').append(x.count(8)).append(' ').append(x.count(9)).append(' ');
        deep.append(x.fault()).append(brief(x));
        while (x.count(9) > 0) {
            deep.append(x.undo()).append(brief(x));
        }
        for (int slot = 0; slot < 2; slot++) {
            deep.append(x.restore(slot)).append(brief(x));
        }
        return deep.append(x.carryOut()).append(brief(x)).toString();
    }

    private static String brief(ErrorBudgets x) {
        StringBuilder brief = new StringBuilder(": ");
        for (int what : new int[] {0, 1, 2, 3, 4, 5, 6, 10, 11, 12, 13, 14, 15, 16, 17}) {
            brief.append(x.count(what)).append(' ');
        }
        for (int service = 0; service < 4; service++) {
            brief.append(x.ofService(service, 0)).append(' ').append(x.ofService(service, 2)).append(' ');
            brief.append(x.account(service, 8)).append(' ');
        }
        return brief.append("; ").toString();
    }
}
