import java.util.Arrays;
import java.util.Random;

/** All promises: long runs of calls, the same ones in every test, on the class and on the model. */
public final class ModelTest {
    private static final String[] CALLS = {
        "set", "service", "budget", "outage", "outage", "outage", "release", "release", "release", "lend", "lend", "lend",
        "repay", "plan", "plan", "plan", "plan", "drop", "hours", "hours", "hours", "leftIn", "frozenIn", "thawsIn",
        "doneAt", "doneAt", "bestLender", "leastLoan", "safeSize", "put", "wipe", "fault", "text", "text", "undo", "undo",
        "save", "restore", "ofService", "ofService", "account", "account", "account", "ofLoan", "ofPlan", "count",
    };

    private final Random random;
    /** How large budgets and loans are in this run. */
    private final int scale;
    /** How many calls of a hundred are given arguments of any kind. */
    private final int wild;
    private final ErrorBudgets x = new ErrorBudgets();
    private final Model model = new Model();
    private int calls = 0;

    private ModelTest(int run) {
        random = new Random(run);
        scale = new int[] {30, 100, 600, 5000}[run % 4];
        wild = run % 3 == 0 ? 12 : 2;
    }

    public static void main(String[] args) {
        int runs = args.length > 0 ? Integer.parseInt(args[0]) : 1000;
        for (int run = 0; run < runs; run++) {
            if (!new ModelTest(run).goes(run)) {
                break;
            }
        }
        Check.end("ModelTest");
    }

    /** An object is used for at most 512 calls: many of any kind, and then a look at all that it holds. */
    private boolean goes(int run) {
        StringBuilder told = new StringBuilder();
        while (calls + model.pictureCalls() < 512 - 20) {
            String name = calls < 4 ? "service" : CALLS[random.nextInt(CALLS.length)];
            if (calls == 4 && random.nextInt(3) > 0) {
                one(told, "set", 0, 12 + random.nextInt(30));
            }
            boolean agrees = name.equals("text") ? text(told) : one(told, name, arguments(name));
            if (!agrees) {
                System.out.println("run " + run + told);
                return false;
            }
        }
        boolean same = model.picture().equals(Check.picture(x)) && x.count(7) == model.reason
            && x.count(8) == model.pad.length() && x.count(9) == model.history.size();
        Check.holds("run " + run + ": the states are the same", same);
        if (!same) {
            System.out.println(told + "\n" + model.picture() + "\n" + Check.picture(x));
        }
        return same;
    }

    private boolean one(StringBuilder told, String name, long... a) {
        told.append(' ').append(name).append(Arrays.toString(a));
        calls++;
        long want = model.call(name, a, true);
        long got = Calls.ask(x, name, a);
        Check.due(name + Arrays.toString(a), got, want);
        return got == want;
    }

    private boolean text(StringBuilder told) {
        StringBuilder text = new StringBuilder();
        int orders = 1 + random.nextInt(6);
        for (int order = 0; order < orders; order++) {
            text.append(order == 0 ? "" : ";").append(order());
        }
        if (random.nextInt(4) == 0) {
            String signs = "orlpxh;*%!>/@^0123456789";
            char sign = signs.charAt(random.nextInt(signs.length()));
            text.setCharAt(random.nextInt(text.length()), sign);
        }
        boolean agrees = random.nextInt(5) == 0 || one(told, "wipe");
        for (int from = 0; from < text.length(); from += 8) {
            agrees &= one(told, "put", Check.number(text.substring(from, Math.min(from + 8, text.length()))));
        }
        return agrees && one(told, "fault") && one(told, "carryOut");
    }

    private String order() {
        long[] a;
        switch (random.nextInt(6)) {
            case 0:
                a = arguments("outage");
                return "o" + digit(a[0]) + "*" + number(a[1]) + "%" + number(a[2]);
            case 1:
                a = arguments("release");
                return "r" + digit(a[0]) + "*" + number(a[1]) + (a[2] == 1 ? "!" : "");
            case 2:
                a = arguments("lend");
                return "l" + digit(a[0]) + ">" + digit(a[1]) + "*" + number(a[2]) + "/" + digit(a[3]);
            case 3:
                a = arguments("plan");
                return "p" + digit(a[0]) + "@" + number(a[1] - model.now.hour) + "*" + number(a[2]) + "^" + digit(a[3]);
            case 4:
                return "x" + number(arguments("drop")[0]);
            default:
                return "h" + number(random.nextInt(5) == 0 ? random.nextInt(1010) : random.nextInt(20));
        }
    }

    private static long digit(long value) {
        return Math.floorMod(value, 10L);
    }

    private static long number(long value) {
        return Math.min(Math.abs(value), 10100);
    }

    private long[] arguments(String name) {
        if (random.nextInt(100) < wild) {
            return new long[] {any(), any(), any(), any()};
        }
        int service = model.now.services.isEmpty() ? 0 : random.nextInt(model.now.services.size());
        int other = model.now.services.isEmpty() ? 0 : random.nextInt(model.now.services.size());
        int loan = random.nextInt(model.now.loans.size() + 1);
        int plan = random.nextInt(model.now.plans.size() + 1);
        int some = 1 + random.nextInt(scale);
        switch (name) {
            case "set": return setting();
            case "service": return new long[] {10 + random.nextInt(scale)};
            case "budget": return new long[] {service, 10 + random.nextInt(scale)};
            case "outage": return new long[] {service, Math.min(some, 600), 1 + random.nextInt(100)};
            case "release": return new long[] {service, Math.min(some, 200), random.nextInt(2)};
            case "lend": return new long[] {service, other, some, 1 + random.nextInt(random.nextBoolean() ? 2 : 9)};
            case "repay": return new long[] {loan};
            case "plan": return new long[] {service, hourOfPlan(), 1 + random.nextInt(Math.min(scale, 200)), random.nextInt(4)};
            case "drop": case "doneAt": return new long[] {plan};
            case "hours": return new long[] {random.nextInt(6) == 0 ? 1 + random.nextInt(1000) : 1 + random.nextInt(30)};
            case "leftIn": return new long[] {service, 1 + random.nextInt(1000)};
            case "ofService": return new long[] {service, random.nextInt(11)};
            case "account": return new long[] {service, random.nextInt(9)};
            case "ofLoan": return new long[] {loan, random.nextInt(5)};
            case "ofPlan": return new long[] {plan, random.nextInt(4)};
            case "count": return new long[] {random.nextInt(18)};
            case "bestLender": return new long[] {service, some};
            case "put": return new long[] {33 + random.nextInt(94)};
            case "save": case "restore": return new long[] {random.nextInt(2)};
            default: return new long[] {service};
        }
    }

    private long hourOfPlan() {
        return model.now.hour + 1 + random.nextInt(random.nextInt(5) == 0 ? 1100 : 12);
    }

    private long[] setting() {
        int[] highest = {720, 100, 100, 100, 100, 300, 10, 9};
        int setting = random.nextInt(8);
        int value = random.nextInt(4) == 0 ? random.nextInt(2) * highest[setting] : random.nextInt(highest[setting] + 1);
        return new long[] {setting, setting == 0 ? 12 + value % 60 : value};
    }

    private long any() {
        switch (random.nextInt(5)) {
            case 0: return random.nextInt(12) - 2;
            case 1: return random.nextInt(1200) - 10;
            case 2: return random.nextBoolean() ? Integer.MIN_VALUE : Integer.MAX_VALUE;
            case 3: return random.nextLong() >>> random.nextInt(64);
            default: return random.nextInt();
        }
    }
}
