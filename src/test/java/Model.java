import java.util.ArrayDeque;
import java.util.ArrayList;
import java.util.Comparator;
import java.util.Deque;
import java.util.List;
import java.util.regex.Matcher;
import java.util.regex.Pattern;

/** The document once more, written apart from the class and with other means, to compare the two. */
final class Model {
    static final class Service {
        int budget;
        boolean frozen;
        int exemptions, releases, dropped, freezes;
        long granted, borrowed, gotBack, outages, spent, lent, paid, lapsed;

        long left() {
            return granted + borrowed + gotBack - outages - spent - lent - paid - lapsed;
        }

        Service copy() {
            Service c = new Service();
            c.budget = budget;
            c.frozen = frozen;
            c.exemptions = exemptions;
            c.releases = releases;
            c.dropped = dropped;
            c.freezes = freezes;
            c.granted = granted;
            c.borrowed = borrowed;
            c.gotBack = gotBack;
            c.outages = outages;
            c.spent = spent;
            c.lent = lent;
            c.paid = paid;
            c.lapsed = lapsed;
            return c;
        }
    }

    record Loan(int lender, int borrower, int minutes, long[] owedAndDue) {
        Loan copy() {
            return new Loan(lender, borrower, minutes, owedAndDue.clone());
        }
    }

    record Plan(int service, int hour, int size, int priority) {
    }

    static final class State {
        int[] settings = {168, 25, 10, 10, 20, 48, 3, 1};
        int hour, window, began;
        List<Service> services = new ArrayList<>();
        List<Loan> loans = new ArrayList<>();
        /** A plan is itself and nothing like it: two plans can be alike, so they are compared by ==. */
        List<Plan> plans = new ArrayList<>();
        List<Plan> done = new ArrayList<>();

        State copy() {
            State c = new State();
            c.settings = settings.clone();
            c.hour = hour;
            c.window = window;
            c.began = began;
            for (Service s : services) c.services.add(s.copy());
            for (Loan l : loans) c.loans.add(l.copy());
            c.plans.addAll(plans);
            return c;
        }

        long thaw(Service s) {
            return (long) s.budget * settings[3] / 100;
        }

        void changed(Service s) {
            if (s.left() <= 0) {
                if (!s.frozen) s.freezes++;
                s.frozen = true;
            } else if (s.left() > thaw(s)) {
                s.frozen = false;
            }
        }

        void pay(Loan l) {
            Service b = services.get(l.borrower);
            Service a = services.get(l.lender);
            long p = b.left() > 0 ? Math.min(b.left(), l.owedAndDue[0]) : 0;
            if (p == 0) return;
            l.owedAndDue[0] -= p;
            b.paid += p;
            changed(b);
            a.gotBack += p;
            changed(a);
        }

        void forget() {
            loans.removeIf(l -> l.owedAndDue[0] == 0);
        }

        void hourPasses() {
            hour++;
            if (began + settings[0] <= hour) newWindow();
            List<Plan> come = new ArrayList<>();
            for (Plan p : plans) if (p.hour <= hour) come.add(p);
            come.sort(Comparator.comparingInt((Plan p) -> -p.priority).thenComparingInt(p -> p.hour));
            for (Plan p : come) {
                Service s = services.get(p.service);
                if (!s.frozen) {
                    s.spent += p.size;
                    s.releases++;
                    changed(s);
                    done.add(p);
                    plans.removeIf(q -> q == p);
                } else if (hour - settings[5] >= p.hour) {
                    s.dropped++;
                    plans.removeIf(q -> q == p);
                }
            }
        }

        private void newWindow() {
            window++;
            began = hour;
            for (Service s : services) {
                if (s.left() > 0) {
                    long left = s.left();
                    s.lapsed += left - Math.min(left, s.budget) * settings[1] / 100;
                }
                s.granted += s.budget;
                changed(s);
                s.exemptions = settings[7];
            }
            List<Loan> dueOnes = new ArrayList<>();
            for (Loan l : loans) if (l.owedAndDue[1] <= window) dueOnes.add(l);
            dueOnes.sort(Comparator.comparingLong(l -> l.owedAndDue[1]));
            for (Loan l : dueOnes) {
                pay(l);
                long still = l.owedAndDue[0];
                if (still > 0) {
                    l.owedAndDue[0] = Math.min(10000000L, still + still * settings[4] / 100);
                    l.owedAndDue[1] = window + 1;
                }
            }
            forget();
        }
    }

    State now = new State();
    int reason = 0;
    String pad = "";
    Deque<State> history = new ArrayDeque<>();
    State[] slots = new State[2];

    private void note(State before) {
        history.addLast(before);
        if (history.size() > 6) history.removeFirst();
    }

    private boolean no(int service) {
        return service < 0 || service >= now.services.size();
    }

    private static boolean out(int value, int low, int high) {
        return value < low || value > high;
    }

    /** Calls a method by its name; a change is noted, unless it is an order of a text. */
    long call(String name, long[] a, boolean noted) {
        State before = now.copy();
        int[] i = new int[a.length];
        for (int k = 0; k < a.length; k++) i[k] = (int) a[k];
        long answer = switch (name) {
            case "set" -> set(i[0], i[1]);
            case "service" -> service(i[0]);
            case "budget" -> budget(i[0], i[1]);
            case "outage" -> outage(i[0], i[1], i[2]);
            case "release" -> release(i[0], i[1], i[2]);
            case "lend" -> lend(i[0], i[1], i[2], i[3]);
            case "repay" -> repay(i[0]);
            case "plan" -> plan(i[0], i[1], i[2], i[3]);
            case "drop" -> drop(i[0]);
            case "hours" -> hours(i[0]);
            case "carryOut" -> carryOut();
            case "restore" -> restore(i[0]);
            default -> Long.MIN_VALUE;
        };
        if (answer != Long.MIN_VALUE) {
            if (noted && answer >= 0) note(before);
            return answer;
        }
        return switch (name) {
            case "leftIn" -> leftIn(i[0], i[1]);
            case "frozenIn" -> until(i[0], true);
            case "thawsIn" -> until(i[0], false);
            case "doneAt" -> doneAt(i[0]);
            case "bestLender" -> bestLender(i[0], i[1]);
            case "leastLoan" -> leastLoan(i[0]);
            case "safeSize" -> safeSize(i[0]);
            case "put" -> put(a[0]);
            case "wipe" -> wipe();
            case "fault" -> faultOf(pad);
            case "undo" -> undo();
            case "save" -> save(i[0]);
            default -> look(name, i);
        };
    }

    private long set(int setting, int value) {
        int[][] ranges = {{12, 720}, {0, 100}, {0, 100}, {0, 100}, {0, 100}, {0, 300}, {0, 10}, {0, 9}};
        if (out(setting, 0, 7) || out(value, ranges[setting][0], ranges[setting][1])) return -2;
        int previous = now.settings[setting];
        now.settings[setting] = value;
        return previous;
    }

    private long service(int budget) {
        if (out(budget, 10, 10000)) return -2;
        if (now.services.size() == 8) return -4;
        Service s = new Service();
        s.budget = budget;
        s.granted = budget;
        s.exemptions = now.settings[7];
        now.services.add(s);
        return now.services.size() - 1;
    }

    private long budget(int service, int budget) {
        if (no(service)) return -1;
        if (out(budget, 10, 10000)) return -2;
        int previous = now.services.get(service).budget;
        now.services.get(service).budget = budget;
        return previous;
    }

    private long outage(int service, int minutes, int share) {
        if (no(service)) return -1;
        if (out(minutes, 1, 600) || out(share, 1, 100)) return -2;
        Service s = now.services.get(service);
        int product = minutes * share;
        s.outages += product / 100 + (product % 100 == 0 ? 0 : 1);
        now.changed(s);
        return s.frozen ? 1 : 0;
    }

    private long release(int service, int size, int exempt) {
        if (no(service)) return -1;
        if (out(size, 1, 200) || out(exempt, 0, 1)) return -2;
        Service s = now.services.get(service);
        int used = 0;
        if (s.frozen) {
            if (exempt == 0 || s.exemptions <= 0) {
                reason = 1;
                return -5;
            }
            s.exemptions--;
            used = 1;
        }
        s.spent += size;
        s.releases++;
        now.changed(s);
        return used;
    }

    private int whyNot(int lender, int borrower, int minutes) {
        Service a = now.services.get(lender);
        if (a.frozen) return 2;
        if (!(a.left() - minutes > now.thaw(a))) return 3;
        long has = now.loans.stream().filter(l -> l.borrower == borrower).count();
        return has >= now.settings[6] ? 4 : 0;
    }

    private long lend(int lender, int borrower, int minutes, int windows) {
        if (no(lender) || no(borrower) || lender == borrower) return -1;
        if (out(minutes, 1, 5000) || out(windows, 1, 9)) return -2;
        if (now.loans.size() == 40) return -4;
        int why = whyNot(lender, borrower, minutes);
        if (why != 0) {
            reason = why;
            return -5;
        }
        long owed = minutes + minutes * now.settings[2] / 100;
        now.loans.add(new Loan(lender, borrower, minutes, new long[] {owed, now.window + windows}));
        now.services.get(lender).lent += minutes;
        now.changed(now.services.get(lender));
        now.services.get(borrower).borrowed += minutes;
        now.changed(now.services.get(borrower));
        return now.loans.size() - 1;
    }

    private long repay(int loan) {
        if (out(loan, 0, now.loans.size() - 1)) return -1;
        Loan l = now.loans.get(loan);
        now.pay(l);
        now.forget();
        return l.owedAndDue[0];
    }

    private long plan(int service, int hour, int size, int priority) {
        if (no(service)) return -1;
        if (out(hour, now.hour + 1, now.hour + 2000) || out(size, 1, 200) || out(priority, 0, 9)) return -2;
        if (now.plans.size() == 30) return -4;
        now.plans.add(new Plan(service, hour, size, priority));
        return now.plans.size() - 1;
    }

    private long drop(int plan) {
        if (out(plan, 0, now.plans.size() - 1)) return -1;
        now.plans.remove(plan);
        return now.plans.size();
    }

    private long hours(int hours) {
        if (out(hours, 1, 1000)) return -2;
        for (int k = 0; k < hours; k++) now.hourPasses();
        return now.hour;
    }

    private long leftIn(int service, int hours) {
        if (no(service)) return -1;
        if (out(hours, 1, 1000)) return -2;
        State later = now.copy();
        for (int k = 0; k < hours; k++) later.hourPasses();
        return later.services.get(service).left();
    }

    private long until(int service, boolean frozen) {
        if (no(service)) return -1;
        State later = now.copy();
        for (int k = 0; k <= 1000; k++) {
            if (later.services.get(service).frozen == frozen) return k;
            later.hourPasses();
        }
        return -6;
    }

    private long doneAt(int plan) {
        if (out(plan, 0, now.plans.size() - 1)) return -1;
        State later = now.copy();
        Plan wanted = later.plans.get(plan);
        for (int k = 0; k < 1000; k++) {
            later.hourPasses();
            for (Plan p : later.done) if (p == wanted) return later.hour;
        }
        return -6;
    }

    private long bestLender(int borrower, int minutes) {
        if (no(borrower)) return -1;
        if (out(minutes, 1, 5000)) return -2;
        int best = -6;
        for (int s = now.services.size() - 1; s >= 0; s--) {
            if (s == borrower || now.loans.size() >= 40 || whyNot(s, borrower, minutes) != 0) continue;
            if (best < 0 || now.services.get(s).left() >= now.services.get(best).left()) best = s;
        }
        return best;
    }

    private long leastLoan(int service) {
        if (no(service)) return -1;
        for (long minutes = 0; ; minutes++) {
            State later = now.copy();
            Service s = later.services.get(service);
            s.borrowed += minutes;
            if (minutes > 0) later.changed(s);
            if (!s.frozen) return minutes;
        }
    }

    private long safeSize(int service) {
        if (no(service)) return -1;
        if (now.services.get(service).frozen) return -6;
        for (int size = 200; size > 0; size--) {
            if (now.services.get(service).left() - size > 0) return size;
        }
        return -6;
    }

    private long put(long characters) {
        String added = "";
        for (int k = 7; k >= 0; k--) {
            int code = (int) (characters >> 8 * k & 0xFF);
            if (code == 0 && added.isEmpty()) continue;
            if (code < 33 || code > 126) return -2;
            added += (char) code;
        }
        if (added.isEmpty()) return -2;
        if (pad.length() + added.length() > 80) return -4;
        pad += added;
        return pad.length();
    }

    private long wipe() {
        int length = pad.length();
        pad = "";
        return length;
    }

    private static final String NUMBER = "(0|[1-9][0-9]{0,3})";
    private static final Pattern ORDER = Pattern.compile("o([0-7])\\*" + NUMBER + "%" + NUMBER + "|r([0-7])\\*" + NUMBER
        + "(!?)|l([0-7])>([0-7])\\*" + NUMBER + "/([0-9])|p([0-7])@" + NUMBER + "\\*" + NUMBER + "\\^([0-9])|x" + NUMBER
        + "|h" + NUMBER);
    private static final Pattern TEXT = Pattern.compile("(?:" + ORDER.pattern() + ")(?:;(?:" + ORDER.pattern() + "))*");

    /** The first character with which no text can begin any more: a regular expression tells that. */
    static int faultOf(String text) {
        for (int length = 1; length <= text.length(); length++) {
            Matcher matcher = TEXT.matcher(text.substring(0, length));
            if (!matcher.matches() && !matcher.hitEnd()) return length - 1;
        }
        return TEXT.matcher(text).matches() ? -6 : text.length();
    }

    private long carryOut() {
        if (faultOf(pad) != -6) return -3;
        String[] orders = pad.split(";");
        pad = "";
        int done = 0;
        for (String order : orders) {
            String[] parts = order.substring(1).split("[^0-9]");
            long[] a = new long[parts.length];
            for (int k = 0; k < a.length; k++) a[k] = Long.parseLong(parts[k]);
            long answer = switch (order.charAt(0)) {
                case 'o' -> call("outage", a, false);
                case 'r' -> call("release", new long[] {a[0], a[1], order.endsWith("!") ? 1 : 0}, false);
                case 'l' -> call("lend", a, false);
                case 'p' -> call("plan", new long[] {a[0], now.hour + a[1], a[2], a[3]}, false);
                case 'x' -> call("drop", a, false);
                default -> call("hours", a, false);
            };
            if (answer < 0) break;
            done++;
        }
        return done;
    }

    private long undo() {
        if (history.isEmpty()) return -6;
        now = history.removeLast();
        return history.size();
    }

    private long save(int slot) {
        if (out(slot, 0, 1)) return -1;
        slots[slot] = now.copy();
        return now.hour;
    }

    private long restore(int slot) {
        if (out(slot, 0, 1) || slots[slot] == null) return -1;
        now = slots[slot].copy();
        return now.hour;
    }

    private long[] counts() {
        int frozen = 0;
        for (int s = 0; s < now.services.size(); s++) if (now.services.get(s).frozen) frozen += 1 << s;
        long[] counts = {now.hour, now.window, now.began, now.services.size(), frozen, now.loans.size(), now.plans.size(),
            reason, pad.length(), history.size(), 0, 0, 0, 0, 0, 0, 0, 0};
        for (int k = 0; k < 8; k++) counts[10 + k] = now.settings[k];
        return counts;
    }

    private long[] numbers(int s) {
        Service v = now.services.get(s);
        long[] numbers = {v.budget, v.frozen ? 1 : 0, v.exemptions, 0, 0, 0, 0, 0, v.releases, v.dropped, v.freezes};
        for (Loan l : now.loans) {
            if (l.borrower == s) numbers[3]++;
            if (l.lender == s) numbers[4]++;
            if (l.borrower == s) numbers[5] += l.owedAndDue[0];
            if (l.lender == s) numbers[6] += l.owedAndDue[0];
        }
        for (Plan p : now.plans) if (p.service == s) numbers[7]++;
        return numbers;
    }

    private long[] accounts(int s) {
        Service v = now.services.get(s);
        return new long[] {v.granted, v.borrowed, v.gotBack, v.outages, v.spent, v.lent, v.paid, v.lapsed, v.left()};
    }

    private long[] loan(int loan) {
        Loan l = now.loans.get(loan);
        return new long[] {l.lender, l.borrower, l.minutes, l.owedAndDue[0], l.owedAndDue[1]};
    }

    private long[] plan(int plan) {
        Plan p = now.plans.get(plan);
        return new long[] {p.service, p.hour, p.size, p.priority};
    }

    private static long one(long[] row, int what) {
        return out(what, 0, row.length - 1) ? -2 : row[what];
    }

    private long look(String name, int[] i) {
        return switch (name) {
            case "ofService" -> no(i[0]) ? -1 : one(numbers(i[0]), i[1]);
            case "account" -> no(i[0]) ? -1 : one(accounts(i[0]), i[1]);
            case "ofLoan" -> out(i[0], 0, now.loans.size() - 1) ? -1 : one(loan(i[0]), i[1]);
            case "ofPlan" -> out(i[0], 0, now.plans.size() - 1) ? -1 : one(plan(i[0]), i[1]);
            case "count" -> one(counts(), i[0]);
            default -> throw new IllegalArgumentException(name);
        };
    }

    private static void append(StringBuilder picture, String title, long[]... rows) {
        picture.append(title);
        for (long[] row : rows) for (long number : row) picture.append(number).append(' ');
    }

    /** What Check.picture() tells of an object. */
    String picture() {
        StringBuilder picture = new StringBuilder();
        long[] counts = counts();
        for (int what = 0; what < counts.length; what++) {
            if (what < 7 || what > 9) picture.append(counts[what]).append(' ');
        }
        for (int s = 0; s < now.services.size(); s++) append(picture, "| service ", numbers(s), accounts(s));
        for (int l = 0; l < now.loans.size(); l++) append(picture, "| loan ", loan(l));
        for (int p = 0; p < now.plans.size(); p++) append(picture, "| plan ", plan(p));
        return picture.toString();
    }

    /** How many calls Check.picture() needs. */
    int pictureCalls() {
        return 22 + 22 * now.services.size() + 6 * now.loans.size() + 5 * now.plans.size();
    }
}
