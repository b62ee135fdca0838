/** Counts the answers of a test, and prints those that are not the ones that are due. */
final class Check {
    private static int asked = 0;
    private static int wrong = 0;
    private static String promise = "";

    private Check() {
    }

    /** Names the promise that the next answers belong to. */
    static void promise(String name) {
        promise = name;
    }

    static void due(String call, long got, long want) {
        asked++;
        if (got != want) {
            wrong++;
            System.out.println(promise + ": " + call + " answered " + got + ", due is " + want);
        }
    }

    static void holds(String what, boolean holds) {
        due(what, holds ? 1 : 0, 1);
    }

    /** The number that gives up to 8 characters to put(). */
    static long number(String characters) {
        long number = 0;
        for (int i = 0; i < characters.length(); i++) {
            number = number << 8 | characters.charAt(i);
        }
        return number;
    }

    /** Puts a text into an empty pad. */
    static void type(ErrorBudgets x, String text) {
        x.wipe();
        for (int from = 0; from < text.length(); from += 8) {
            int to = Math.min(from + 8, text.length());
            due("put of " + text.substring(from, to), x.put(number(text.substring(from, to))), to);
        }
    }

    /** Carries a text out. */
    static int carryOut(ErrorBudgets x, String text) {
        type(x, text);
        return x.carryOut();
    }

    /** Everything that can be read from an object, but for the pad and the history. */
    static String picture(ErrorBudgets x) {
        StringBuilder picture = new StringBuilder();
        for (int what = 0; what < 18; what++) {
            if (what < 7 || what > 9) {
                picture.append(x.count(what)).append(' ');
            }
        }
        for (int service = 0; service < x.count(3); service++) {
            picture.append("| service ");
            for (int what = 0; what <= 10; what++) {
                picture.append(x.ofService(service, what)).append(' ');
            }
            for (int what = 0; what <= 8; what++) {
                picture.append(x.account(service, what)).append(' ');
            }
        }
        for (int loan = 0; loan < x.count(5); loan++) {
            picture.append("| loan ");
            for (int what = 0; what <= 4; what++) {
                picture.append(x.ofLoan(loan, what)).append(' ');
            }
        }
        for (int plan = 0; plan < x.count(6); plan++) {
            picture.append("| plan ");
            for (int what = 0; what <= 3; what++) {
                picture.append(x.ofPlan(plan, what)).append(' ');
            }
        }
        return picture.toString();
    }

    /** A house with one service for each budget. */
    static ErrorBudgets house(int... budgets) {
        ErrorBudgets x = new ErrorBudgets();
        for (int budget : budgets) {
            x.service(budget);
        }
        return x;
    }

    /** Prints how it went, and ends the program with exit code 1 if an answer was wrong. */
    static void end(String test) {
        System.out.println(test + ": " + asked + " answers, " + wrong + " wrong");
        if (wrong > 0 || asked == 0) {
            System.exit(1);
        }
    }
}
