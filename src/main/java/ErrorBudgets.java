/** Error budgets of services. What each method promises stands in the document, ../shared/DOC.md. */
public final class ErrorBudgets {
    public static final int NO_SUCH = -1, BAD_VALUE = -2, BAD_TEXT = -3, TOO_MANY = -4, REFUSED = -5, NONE = -6;
    public static final int WINDOW = 0, CARRY = 1, INTEREST = 2, THAW = 3, PENALTY = 4, PATIENCE = 5, LOANS = 6, EXEMPT = 7;

    private static final int SETTINGS = 8;
    private static final int[] LOWEST = {12, 0, 0, 0, 0, 0, 0, 0};
    private static final int[] HIGHEST = {720, 100, 100, 100, 100, 300, 10, 9};
    private static final int[] FIRST = {168, 25, 10, 10, 20, 48, 3, 1};

    private static final int MAX_SERVICES = 8, MAX_LOANS = 40, MAX_PLANS = 30;
    private static final int MIN_BUDGET = 10, MAX_BUDGET = 10000;
    private static final int MAX_SIZE = 200, MAX_LENT = 5000, MAX_HOURS = 1000, MAX_AHEAD = 2000;
    private static final int MAX_OWED = 10000000;
    private static final int HISTORY = 6, HISTORY_PLACES = HISTORY + 1;
    private static final int SLOTS = 2;

    private static final int GRANTED = 0, BORROWED = 1, GOT_BACK = 2, OUTAGES = 3, RELEASES = 4;
    private static final int LENT = 5, PAID_BACK = 6, LAPSED = 7, LEFT = 8, ACCOUNTS = 9;

    private static final int SERVICE_FROZEN = 1, LENDER_FROZEN = 2, LENDER_SHORT = 3, BORROWER_FULL = 4;

    private static final int WAITS = 0, DONE = 1, DROPPED = 2;

    private static final int PAD_LENGTH = 80;
    /** The shortest order has two characters, and a ";" stands between two orders. */
    private static final int MAX_ORDERS = (PAD_LENGTH + 1) / 3;
    private static final int VALUES = 4;
    private static final char PAST_THE_END = 0;

    private final House now = new House();
    private final House trial = new House();
    private final History history = new History();
    private final House[] slots = new House[SLOTS];
    private final boolean[] saved = new boolean[SLOTS];
    private final Pad pad = new Pad();
    private int reason = 0;

    public ErrorBudgets() {
        for (int slot = 0; slot < SLOTS; slot++) {
            slots[slot] = new House();
        }
    }

    // ---- setting up

    public int set(int setting, int value) {
        if (setting < 0 || setting >= SETTINGS || !isWithin(value, LOWEST[setting], HIGHEST[setting])) {
            return BAD_VALUE;
        }
        history.prepare(now);
        int previous = now.settings[setting];
        now.settings[setting] = value;
        return history.keep(previous);
    }

    public int service(int budget) {
        if (!isWithin(budget, MIN_BUDGET, MAX_BUDGET)) {
            return BAD_VALUE;
        }
        if (now.serviceCount >= MAX_SERVICES) {
            return TOO_MANY;
        }
        history.prepare(now);
        return history.keep(now.addService(budget));
    }

    public int budget(int service, int budget) {
        if (!now.hasService(service)) {
            return NO_SUCH;
        }
        if (!isWithin(budget, MIN_BUDGET, MAX_BUDGET)) {
            return BAD_VALUE;
        }
        history.prepare(now);
        int previous = now.budgets[service];
        now.budgets[service] = budget;
        return history.keep(previous);
    }

    // ---- spending, lending

    public int outage(int service, int minutes, int share) {
        history.prepare(now);
        return history.keep(sufferOutage(service, minutes, share));
    }

    public int release(int service, int size, int exempt) {
        history.prepare(now);
        return history.keep(tryRelease(service, size, exempt));
    }

    public int lend(int lender, int borrower, int minutes, int windows) {
        history.prepare(now);
        return history.keep(tryLoan(lender, borrower, minutes, windows));
    }

    public int repay(int loan) {
        if (!now.loans.has(loan)) {
            return NO_SUCH;
        }
        history.prepare(now);
        now.payBack(loan);
        int owed = now.loans.owed[loan];
        now.loans.removePaid();
        return history.keep(owed);
    }

    public int plan(int service, int hour, int size, int priority) {
        history.prepare(now);
        return history.keep(addPlan(service, hour, size, priority));
    }

    public int drop(int plan) {
        history.prepare(now);
        return history.keep(removePlan(plan));
    }

    public int hours(int hours) {
        history.prepare(now);
        return history.keep(now.letPass(hours));
    }

    // The methods up to obey() check and do what an order can ask for; they record nothing,
    // because an order of a text must not.

    private int sufferOutage(int service, int minutes, int share) {
        if (!now.hasService(service)) {
            return NO_SUCH;
        }
        if (!isWithin(minutes, 1, 600) || !isWithin(share, 1, 100)) {
            return BAD_VALUE;
        }
        now.book(service, OUTAGES, (minutes * share + 99) / 100);
        return now.isFrozen(service) ? 1 : 0;
    }

    private int tryRelease(int service, int size, int exempt) {
        if (!now.hasService(service)) {
            return NO_SUCH;
        }
        if (!isWithin(size, 1, MAX_SIZE) || !isWithin(exempt, 0, 1)) {
            return BAD_VALUE;
        }
        boolean frozen = now.isFrozen(service);
        if (frozen && (exempt == 0 || now.exemptions[service] == 0)) {
            return refuse(SERVICE_FROZEN);
        }
        if (frozen) {
            now.exemptions[service]--;
        }
        now.doRelease(service, size);
        return frozen ? 1 : 0;
    }

    private int tryLoan(int lender, int borrower, int minutes, int windows) {
        if (!now.hasService(lender) || !now.hasService(borrower) || lender == borrower) {
            return NO_SUCH;
        }
        if (!isWithin(minutes, 1, MAX_LENT) || !isWithin(windows, 1, 9)) {
            return BAD_VALUE;
        }
        if (now.loans.number >= MAX_LOANS) {
            return TOO_MANY;
        }
        int refusal = now.refusalOfLoan(lender, borrower, minutes);
        if (refusal != 0) {
            return refuse(refusal);
        }
        return now.addLoan(lender, borrower, minutes, windows);
    }

    private int addPlan(int service, int hour, int size, int priority) {
        if (!now.hasService(service)) {
            return NO_SUCH;
        }
        if (!isWithin(hour, now.hour + 1, now.hour + MAX_AHEAD) || !isWithin(size, 1, MAX_SIZE)
                || !isWithin(priority, 0, 9)) {
            return BAD_VALUE;
        }
        if (now.plans.number >= MAX_PLANS) {
            return TOO_MANY;
        }
        return now.plans.add(service, hour, size, priority);
    }

    private int removePlan(int plan) {
        if (!now.plans.has(plan)) {
            return NO_SUCH;
        }
        now.plans.fate[plan] = DROPPED;
        now.plans.removeEnded();
        return now.plans.number;
    }

    private int obey(int order) {
        int first = pad.valueOf(order, 0);
        int second = pad.valueOf(order, 1);
        int third = pad.valueOf(order, 2);
        int fourth = pad.valueOf(order, 3);
        switch (pad.kindOf(order)) {
            case 'o': return sufferOutage(first, second, third);
            case 'r': return tryRelease(first, second, third);
            case 'l': return tryLoan(first, second, third, fourth);
            case 'p': return addPlan(first, now.hour + second, third, fourth);
            case 'x': return removePlan(first);
            case 'h': return now.letPass(first);
            default: return BAD_TEXT;
        }
    }

    private int refuse(int why) {
        reason = why;
        return REFUSED;
    }

    private static boolean isWithin(int value, int lowest, int highest) {
        return value >= lowest && value <= highest;
    }

    // ---- what there is

    public int ofService(int service, int what) {
        if (!now.hasService(service)) {
            return NO_SUCH;
        }
        Loans loans = now.loans;
        switch (what) {
            case 0: return now.budgets[service];
            case 1: return now.isFrozen(service) ? 1 : 0;
            case 2: return now.exemptions[service];
            case 3: return loans.countWith(loans.borrower, service);
            case 4: return loans.countWith(loans.lender, service);
            case 5: return loans.owedWith(loans.borrower, service);
            case 6: return loans.owedWith(loans.lender, service);
            case 7: return now.plans.countWith(service);
            case 8: return now.releases[service];
            case 9: return now.droppedPlans[service];
            case 10: return now.freezes[service];
            default: return BAD_VALUE;
        }
    }

    public long account(int service, int what) {
        if (!now.hasService(service)) {
            return NO_SUCH;
        }
        if (what < 0 || what >= ACCOUNTS) {
            return BAD_VALUE;
        }
        return now.minutesOf(service, what);
    }

    public int ofLoan(int loan, int what) {
        Loans loans = now.loans;
        if (!loans.has(loan)) {
            return NO_SUCH;
        }
        switch (what) {
            case 0: return loans.lender[loan];
            case 1: return loans.borrower[loan];
            case 2: return loans.minutes[loan];
            case 3: return loans.owed[loan];
            case 4: return loans.due[loan];
            default: return BAD_VALUE;
        }
    }

    public int ofPlan(int plan, int what) {
        Plans plans = now.plans;
        if (!plans.has(plan)) {
            return NO_SUCH;
        }
        switch (what) {
            case 0: return plans.service[plan];
            case 1: return plans.hour[plan];
            case 2: return plans.size[plan];
            case 3: return plans.priority[plan];
            default: return BAD_VALUE;
        }
    }

    public int count(int what) {
        switch (what) {
            case 0: return now.hour;
            case 1: return now.window;
            case 2: return now.windowStart;
            case 3: return now.serviceCount;
            case 4: return now.frozen;
            case 5: return now.loans.number;
            case 6: return now.plans.number;
            case 7: return reason;
            case 8: return pad.length;
            case 9: return history.kept;
            default: break;
        }
        int setting = what - 10;
        if (what < 10 || setting >= SETTINGS) {
            return BAD_VALUE;
        }
        return now.settings[setting];
    }

    // ---- what if; nothing changes

    public long leftIn(int service, int hours) {
        if (!now.hasService(service)) {
            return NO_SUCH;
        }
        trial.copyFrom(now);
        return trial.letPass(hours) == BAD_VALUE ? BAD_VALUE : trial.minutesOf(service, LEFT);
    }

    public int frozenIn(int service) {
        return now.hasService(service) ? hoursUntil(service, true) : NO_SUCH;
    }

    public int thawsIn(int service) {
        return now.hasService(service) ? hoursUntil(service, false) : NO_SUCH;
    }

    private int hoursUntil(int service, boolean frozen) {
        if (now.isFrozen(service) == frozen) {
            return 0;
        }
        trial.copyFrom(now);
        for (int passed = 1; passed <= MAX_HOURS; passed++) {
            trial.letPass(1);
            if (trial.isFrozen(service) == frozen) {
                return passed;
            }
        }
        return NONE;
    }

    public int doneAt(int plan) {
        if (!now.plans.has(plan)) {
            return NO_SUCH;
        }
        trial.copyFrom(now);
        trial.plans.watch(plan);
        for (int passed = 0; passed < MAX_HOURS; passed++) {
            trial.letPass(1);
            if (trial.plans.watchedFate == DONE) {
                return trial.hour;
            }
            if (trial.plans.watchedFate == DROPPED) {
                return NONE;
            }
        }
        return NONE;
    }

    public int bestLender(int borrower, int minutes) {
        if (!now.hasService(borrower)) {
            return NO_SUCH;
        }
        if (!isWithin(minutes, 1, MAX_LENT)) {
            return BAD_VALUE;
        }
        if (now.loans.number >= MAX_LOANS) {
            return NONE;
        }
        int best = NONE;
        long most = 0;
        for (int lender = 0; lender < now.serviceCount; lender++) {
            long left = now.minutesOf(lender, LEFT);
            boolean could = lender != borrower && now.refusalOfLoan(lender, borrower, minutes) == 0;
            if (could && (best == NONE || left > most)) {
                best = lender;
                most = left;
            }
        }
        return best;
    }

    public long leastLoan(int service) {
        if (!now.hasService(service)) {
            return NO_SUCH;
        }
        if (!now.isFrozen(service)) {
            return 0;
        }
        // A frozen service can have enough already (a setting changed), but only a change thaws it.
        return Math.max(1, now.thawLimit(service) + 1 - now.minutesOf(service, LEFT));
    }

    public int safeSize(int service) {
        if (!now.hasService(service)) {
            return NO_SUCH;
        }
        long spare = now.minutesOf(service, LEFT) - 1;
        if (now.isFrozen(service) || spare < 1) {
            return NONE;
        }
        return (int) Math.min(spare, MAX_SIZE);
    }

    // ---- texts

    public int put(long characters) {
        int number = charactersIn(characters);
        if (number < 1) {
            return BAD_VALUE;
        }
        if (pad.length + number > PAD_LENGTH) {
            return TOO_MANY;
        }
        for (int place = number - 1; place >= 0; place--) {
            pad.append(codeAt(characters, place));
        }
        return pad.length;
    }

    /** How many characters a number gives, or -1 if it is no such number. */
    private static int charactersIn(long characters) {
        for (int place = 0; place < 8; place++) {
            if (codeAt(characters, place) == 0) {
                return (characters >>> (8 * place)) == 0 ? place : -1;
            }
            if (!isWithin(codeAt(characters, place), 33, 126)) {
                return -1;
            }
        }
        return 8;
    }

    private static int codeAt(long characters, int place) {
        return (int) (characters >>> (8 * place)) & 255;
    }

    public int wipe() {
        int length = pad.length;
        pad.length = 0;
        return length;
    }

    public int fault() {
        return pad.readOrders();
    }

    public int carryOut() {
        if (pad.readOrders() != NONE) {
            return BAD_TEXT;
        }
        history.prepare(now);
        int done = 0;
        while (done < pad.orders && obey(done) >= 0) {
            done++;
        }
        pad.length = 0;
        return history.keep(done);
    }

    // ---- undo, saving

    public int undo() {
        if (history.kept == 0) {
            return NONE;
        }
        now.copyFrom(history.takeLatest());
        return history.kept;
    }

    public int save(int slot) {
        if (slot < 0 || slot >= SLOTS) {
            return NO_SUCH;
        }
        slots[slot].copyFrom(now);
        saved[slot] = true;
        return now.hour;
    }

    public int restore(int slot) {
        if (slot < 0 || slot >= SLOTS || !saved[slot]) {
            return NO_SUCH;
        }
        history.prepare(now);
        now.copyFrom(slots[slot]);
        return history.keep(now.hour);
    }

    /** All that undo() and restore() bring back. */
    private static final class House {
        private final int[] settings = FIRST.clone();
        private int hour = 0;
        private int window = 0;
        private int windowStart = 0;
        private int serviceCount = 0;
        /** A bit for each service. */
        private int frozen = 0;
        private final int[] budgets = new int[MAX_SERVICES];
        private final int[] exemptions = new int[MAX_SERVICES];
        private final int[] releases = new int[MAX_SERVICES];
        private final int[] droppedPlans = new int[MAX_SERVICES];
        private final int[] freezes = new int[MAX_SERVICES];
        /** ACCOUNTS of them for each service, one service after the other. */
        private final long[] accounts = new long[MAX_SERVICES * ACCOUNTS];
        private final Loans loans = new Loans();
        private final Plans plans = new Plans();

        private void copyFrom(House other) {
            System.arraycopy(other.settings, 0, settings, 0, SETTINGS);
            hour = other.hour;
            window = other.window;
            windowStart = other.windowStart;
            serviceCount = other.serviceCount;
            frozen = other.frozen;
            System.arraycopy(other.budgets, 0, budgets, 0, MAX_SERVICES);
            System.arraycopy(other.exemptions, 0, exemptions, 0, MAX_SERVICES);
            System.arraycopy(other.releases, 0, releases, 0, MAX_SERVICES);
            System.arraycopy(other.droppedPlans, 0, droppedPlans, 0, MAX_SERVICES);
            System.arraycopy(other.freezes, 0, freezes, 0, MAX_SERVICES);
            System.arraycopy(other.accounts, 0, accounts, 0, MAX_SERVICES * ACCOUNTS);
            loans.copyFrom(other.loans);
            plans.copyFrom(other.plans);
        }

        private boolean hasService(int service) {
            return service >= 0 && service < serviceCount;
        }

        private boolean isFrozen(int service) {
            return (frozen >> service & 1) == 1;
        }

        private long minutesOf(int service, int what) {
            return accounts[service * ACCOUNTS + what];
        }

        private int thawLimit(int service) {
            return budgets[service] * settings[THAW] / 100;
        }

        private int addService(int budget) {
            // The rows behind the last service hold zeros: copyFrom() copies them, too.
            int service = serviceCount;
            budgets[service] = budget;
            exemptions[service] = settings[EXEMPT];
            serviceCount++;
            book(service, GRANTED, budget);
            return service;
        }

        /** Enters minutes in an account, and in what is left, so that the accounts add up. */
        private void enter(int service, int what, long minutes) {
            accounts[service * ACCOUNTS + what] += minutes;
            accounts[service * ACCOUNTS + LEFT] += what <= GOT_BACK ? minutes : -minutes;
        }

        /** Enters minutes and freezes or thaws: only a change of minutes does that, never a setting. */
        private void book(int service, int what, long minutes) {
            enter(service, what, minutes);
            long left = minutesOf(service, LEFT);
            if (left <= 0) {
                if (!isFrozen(service)) {
                    freezes[service]++;
                }
                frozen |= 1 << service;
            } else if (left > thawLimit(service)) {
                frozen &= ~(1 << service);
            }
        }

        private void doRelease(int service, int size) {
            releases[service]++;
            book(service, RELEASES, size);
        }

        /** The reason why a loan is refused, or 0. */
        private int refusalOfLoan(int lender, int borrower, int minutes) {
            if (isFrozen(lender)) {
                return LENDER_FROZEN;
            }
            if (minutesOf(lender, LEFT) - minutes <= thawLimit(lender)) {
                return LENDER_SHORT;
            }
            return loans.countWith(loans.borrower, borrower) >= settings[LOANS] ? BORROWER_FULL : 0;
        }

        private int addLoan(int lender, int borrower, int minutes, int windows) {
            book(lender, LENT, minutes);
            book(borrower, BORROWED, minutes);
            int owed = minutes + minutes * settings[INTEREST] / 100;
            return loans.add(lender, borrower, minutes, owed, window + windows);
        }

        /** The loan stays in its place, even if nothing is owed any more. */
        private void payBack(int loan) {
            int borrower = loans.borrower[loan];
            long paid = Math.min(loans.owed[loan], minutesOf(borrower, LEFT));
            // Where nothing is paid nothing changes: nobody is frozen or thaws.
            if (paid <= 0) {
                return;
            }
            loans.owed[loan] -= (int) paid;
            book(borrower, PAID_BACK, paid);
            book(loans.lender[loan], GOT_BACK, paid);
        }

        /** Returns the hour then, or BAD_VALUE. */
        private int letPass(int hours) {
            if (!isWithin(hours, 1, MAX_HOURS)) {
                return BAD_VALUE;
            }
            for (int passed = 0; passed < hours; passed++) {
                hour++;
                if (hour - windowStart >= settings[WINDOW]) {
                    beginWindow();
                    payDueLoans();
                }
                takePlans();
            }
            return hour;
        }

        private void beginWindow() {
            window++;
            windowStart = hour;
            for (int service = 0; service < serviceCount; service++) {
                long left = Math.max(0, minutesOf(service, LEFT));
                long carried = Math.min(left, budgets[service]) * settings[CARRY] / 100;
                // What lapses and what is granted is one change, so what lapses is not booked by itself.
                enter(service, LAPSED, left - carried);
                book(service, GRANTED, budgets[service]);
                exemptions[service] = settings[EXEMPT];
            }
        }

        /**
         * All loans that are due are due in this very window: whatever was not paid in the last one
         * was put off to this one. So the order of their numbers is the order that is asked for.
         */
        private void payDueLoans() {
            for (int loan = 0; loan < loans.number; loan++) {
                if (loans.due[loan] <= window) {
                    payBack(loan);
                    int owed = loans.owed[loan];
                    loans.owed[loan] = Math.min(MAX_OWED, owed + owed * settings[PENALTY] / 100);
                    loans.due[loan] = window + 1;
                }
            }
            loans.removePaid();
        }

        private void takePlans() {
            boolean ended = false;
            for (int turn = 0; turn < plans.number; turn++) {
                int plan = plans.turns[turn];
                int fate = fateOf(plan);
                plans.fate[plan] = fate;
                if (fate == DONE) {
                    doRelease(plans.service[plan], plans.size[plan]);
                } else if (fate == DROPPED) {
                    droppedPlans[plans.service[plan]]++;
                }
                ended = ended || fate != WAITS;
            }
            if (ended) {
                plans.removeEnded();
            }
        }

        private int fateOf(int plan) {
            int late = hour - plans.hour[plan];
            if (late < 0) {
                return WAITS;
            }
            if (!isFrozen(plans.service[plan])) {
                return DONE;
            }
            return late >= settings[PATIENCE] ? DROPPED : WAITS;
        }
    }

    private static final class Loans {
        private int number = 0;
        private final int[] lender = new int[MAX_LOANS];
        private final int[] borrower = new int[MAX_LOANS];
        private final int[] minutes = new int[MAX_LOANS];
        private final int[] owed = new int[MAX_LOANS];
        private final int[] due = new int[MAX_LOANS];

        private void copyFrom(Loans other) {
            number = other.number;
            System.arraycopy(other.lender, 0, lender, 0, number);
            System.arraycopy(other.borrower, 0, borrower, 0, number);
            System.arraycopy(other.minutes, 0, minutes, 0, number);
            System.arraycopy(other.owed, 0, owed, 0, number);
            System.arraycopy(other.due, 0, due, 0, number);
        }

        private boolean has(int loan) {
            return loan >= 0 && loan < number;
        }

        private int add(int from, int to, int lent, int owing, int window) {
            int loan = number;
            lender[loan] = from;
            borrower[loan] = to;
            minutes[loan] = lent;
            owed[loan] = owing;
            due[loan] = window;
            number++;
            return loan;
        }

        /** How many loans have a service on one side, which is the row of lenders or of borrowers. */
        private int countWith(int[] side, int service) {
            int found = 0;
            for (int loan = 0; loan < number; loan++) {
                if (side[loan] == service) {
                    found++;
                }
            }
            return found;
        }

        private int owedWith(int[] side, int service) {
            int sum = 0;
            for (int loan = 0; loan < number; loan++) {
                if (side[loan] == service) {
                    sum += owed[loan];
                }
            }
            return sum;
        }

        private void removePaid() {
            int kept = 0;
            for (int loan = 0; loan < number; loan++) {
                if (owed[loan] > 0) {
                    lender[kept] = lender[loan];
                    borrower[kept] = borrower[loan];
                    minutes[kept] = minutes[loan];
                    owed[kept] = owed[loan];
                    due[kept] = due[loan];
                    kept++;
                }
            }
            number = kept;
        }
    }

    private static final class Plans {
        private int number = 0;
        private final int[] service = new int[MAX_PLANS];
        private final int[] hour = new int[MAX_PLANS];
        private final int[] size = new int[MAX_PLANS];
        private final int[] priority = new int[MAX_PLANS];
        /** WAITS, but for those that removeEnded() is about to remove. */
        private final int[] fate = new int[MAX_PLANS];
        /** The numbers of the plans in the order in which their turns come. */
        private final int[] turns = new int[MAX_PLANS];
        /** The plan that a forecast asks about, or -1. */
        private int watched = -1;
        private int watchedFate = WAITS;

        private void copyFrom(Plans other) {
            number = other.number;
            System.arraycopy(other.service, 0, service, 0, number);
            System.arraycopy(other.hour, 0, hour, 0, number);
            System.arraycopy(other.size, 0, size, 0, number);
            System.arraycopy(other.priority, 0, priority, 0, number);
            System.arraycopy(other.fate, 0, fate, 0, number);
            System.arraycopy(other.turns, 0, turns, 0, number);
            watch(-1);
        }

        private void watch(int plan) {
            watched = plan;
            watchedFate = WAITS;
        }

        private boolean has(int plan) {
            return plan >= 0 && plan < number;
        }

        private int add(int of, int at, int large, int urgent) {
            int plan = number;
            service[plan] = of;
            hour[plan] = at;
            size[plan] = large;
            priority[plan] = urgent;
            fate[plan] = WAITS;
            number++;
            arrange();
            return plan;
        }

        private int countWith(int of) {
            int found = 0;
            for (int plan = 0; plan < number; plan++) {
                if (service[plan] == of) {
                    found++;
                }
            }
            return found;
        }

        private void removeEnded() {
            int kept = 0;
            int follow = watched;
            for (int plan = 0; plan < number; plan++) {
                if (plan == follow) {
                    watchedFate = fate[plan];
                    watched = fate[plan] == WAITS ? kept : -1;
                }
                if (fate[plan] == WAITS) {
                    move(plan, kept);
                    kept++;
                }
            }
            number = kept;
            arrange();
        }

        private void move(int plan, int place) {
            service[place] = service[plan];
            hour[place] = hour[plan];
            size[place] = size[plan];
            priority[place] = priority[plan];
            fate[place] = fate[plan];
        }

        /** Sorts the turns whenever the plans change, so that an hour need not. */
        private void arrange() {
            for (int plan = 0; plan < number; plan++) {
                int turn = plan;
                while (turn > 0 && isBefore(plan, turns[turn - 1])) {
                    turns[turn] = turns[turn - 1];
                    turn--;
                }
                turns[turn] = plan;
            }
        }

        /** Of two plans that are alike, the one with the lower number is before the other one. */
        private boolean isBefore(int plan, int other) {
            if (priority[plan] != priority[other]) {
                return priority[plan] > priority[other];
            }
            if (hour[plan] != hour[other]) {
                return hour[plan] < hour[other];
            }
            return plan < other;
        }
    }

    /** The states before the latest changes, in a ring: one place more than can be undone, for the next state. */
    private static final class History {
        private final House[] states = new House[HISTORY_PLACES];
        private int oldest = 0;
        private int kept = 0;

        private History() {
            for (int place = 0; place < HISTORY_PLACES; place++) {
                states[place] = new House();
            }
        }

        /** Notes the state before a change; keep() makes it count, if the change returns no error. */
        private void prepare(House before) {
            states[(oldest + kept) % HISTORY_PLACES].copyFrom(before);
        }

        private int keep(int result) {
            if (result >= 0 && kept < HISTORY) {
                kept++;
            } else if (result >= 0) {
                oldest = (oldest + 1) % HISTORY_PLACES;
            }
            return result;
        }

        private House takeLatest() {
            kept = Math.max(0, kept - 1);
            return states[(oldest + kept) % HISTORY_PLACES];
        }
    }

    private static final class Pad {
        private final char[] signs = new char[PAD_LENGTH];
        private int length = 0;
        /** Where the reading stands. */
        private int at = 0;
        private int orders = 0;
        private final char[] kinds = new char[MAX_ORDERS];
        /** VALUES of them for each order, one order after the other. */
        private final int[] values = new int[MAX_ORDERS * VALUES];

        private void append(int code) {
            signs[length] = (char) code;
            length++;
        }

        private char kindOf(int order) {
            return kinds[order];
        }

        private int valueOf(int order, int place) {
            return values[order * VALUES + place];
        }

        /** Reads all orders; returns the fault, or NONE. */
        private int readOrders() {
            at = 0;
            orders = 0;
            while (orders < MAX_ORDERS) {
                if (!readOrder()) {
                    return at;
                }
                orders++;
                if (at >= length) {
                    return NONE;
                }
                if (!readSign(';')) {
                    return at;
                }
            }
            return at;
        }

        /** Reads one order up to its end, or up to the character that cannot stand at its place. */
        private boolean readOrder() {
            String shape = shapeOf(signHere());
            if (shape.isEmpty()) {
                return false;
            }
            kinds[orders] = signHere();
            at++;
            int place = 0;
            for (int i = 0; i < shape.length(); i++) {
                char part = shape.charAt(i);
                int value = readPart(part);
                if (value < 0) {
                    return false;
                }
                if (isValue(part) && place < VALUES) {
                    values[orders * VALUES + place] = value;
                    place++;
                }
            }
            return true;
        }

        /** What follows a kind of order: s service, d digit, n number, ! a "!" or nothing, others as they are. */
        private static String shapeOf(char kind) {
            switch (kind) {
                case 'o': return "s*n%n";
                case 'r': return "s*n!";
                case 'l': return "s>s*n/d";
                case 'p': return "s@n*n^d";
                case 'x': return "n";
                case 'h': return "n";
                default: return "";
            }
        }

        private static boolean isValue(char part) {
            return part == 's' || part == 'd' || part == 'n' || part == '!';
        }

        /** Returns the value of a part (0 for a sign that only has to stand there), or -1 at a fault. */
        private int readPart(char part) {
            switch (part) {
                case 's': return readDigit('7');
                case 'd': return readDigit('9');
                case 'n': return readNumber();
                case '!': return readSign('!') ? 1 : 0;
                default: return readSign(part) ? 0 : -1;
            }
        }

        private boolean readSign(char sign) {
            boolean there = signHere() == sign;
            if (there) {
                at++;
            }
            return there;
        }

        private int readDigit(char highest) {
            char sign = signHere();
            if (sign < '0' || sign > highest) {
                return -1;
            }
            at++;
            return sign - '0';
        }

        /** No shape has a digit behind a number, so a digit too many is a fault in what follows. */
        private int readNumber() {
            int number = readDigit('9');
            for (int digits = 1; digits < 4 && number > 0; digits++) {
                int digit = readDigit('9');
                if (digit < 0) {
                    return number;
                }
                number = number * 10 + digit;
            }
            return number;
        }

        private char signHere() {
            return at < length ? signs[at] : PAST_THE_END;
        }
    }
}
