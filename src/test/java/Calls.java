/** Calls the methods of an object by their names. */
final class Calls {
    private Calls() {
    }

    /** Arguments that are not given are 0; those of a method that takes an int are its lowest 32 bits. */
    static long ask(ErrorBudgets x, String name, long... a) {
        int p = a.length > 0 ? (int) a[0] : 0;
        int q = a.length > 1 ? (int) a[1] : 0;
        int r = a.length > 2 ? (int) a[2] : 0;
        int s = a.length > 3 ? (int) a[3] : 0;
        switch (name) {
            case "set": return x.set(p, q);
            case "service": return x.service(p);
            case "budget": return x.budget(p, q);
            case "outage": return x.outage(p, q, r);
            case "release": return x.release(p, q, r);
            case "lend": return x.lend(p, q, r, s);
            case "repay": return x.repay(p);
            case "plan": return x.plan(p, q, r, s);
            case "drop": return x.drop(p);
            case "hours": return x.hours(p);
            case "ofService": return x.ofService(p, q);
            case "account": return x.account(p, q);
            case "ofLoan": return x.ofLoan(p, q);
            case "ofPlan": return x.ofPlan(p, q);
            case "count": return x.count(p);
            case "leftIn": return x.leftIn(p, q);
            case "frozenIn": return x.frozenIn(p);
            case "thawsIn": return x.thawsIn(p);
            case "doneAt": return x.doneAt(p);
            case "bestLender": return x.bestLender(p, q);
            case "leastLoan": return x.leastLoan(p);
            case "safeSize": return x.safeSize(p);
            case "put": return x.put(a.length > 0 ? a[0] : 0);
            case "wipe": return x.wipe();
            case "fault": return x.fault();
            case "carryOut": return x.carryOut();
            case "undo": return x.undo();
            case "save": return x.save(p);
            case "restore": return x.restore(p);
            default: throw new IllegalArgumentException(name);
        }
    }
}
