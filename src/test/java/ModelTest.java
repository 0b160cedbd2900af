import java.util.Arrays;
import java.util.TreeMap;

/** All promises: long runs of calls, always the same ones, on the class and on the model of the tests. */
public final class ModelTest {
    private static final int RUNS = 3000;
    private static final int CALLS = 512;

    private static final String[] CHANGES = {"elect", "cost", "cost", "cost", "income", "income", "income", "overhead",
        "move", "move", "call", "pay", "pay", "shareOut", "setPenalty", "setOverhead", "addWell", "setShares"};
    private static final String[] QUESTIONS = {"vouchers", "wellOf", "amountOf", "isIn", "toEarn", "toEarn", "backAt",
        "backAt", "charged", "credited", "credited", "weight", "asked", "asked", "paid", "owes", "balance", "balance"};
    private static final int[] WRONG = {-1, 5, 6, 20, 60, 10001, 10000001, Integer.MAX_VALUE, Integer.MIN_VALUE};

    // The numbers of a run come from this row alone, so that each run is always the same.
    private static long row;

    private static final TreeMap<String, Integer> ANSWERED = new TreeMap<>();

    public static void main(String[] args) {
        for (int run = 0; run < RUNS; run++) {
            runOnBoth(run);
        }
        for (String kind : new String[] {"index", "argument", "state"}) {
            Check.equal("some calls threw " + kind, ANSWERED.getOrDefault(kind, 0) > 1000, true);
        }
        Check.equal("some partner came in again", ANSWERED.getOrDefault("back", 0) > 1000, true);
        Check.equal("some call was shared out", ANSWERED.getOrDefault("shared", 0) > 1000, true);
        Check.end();
    }

    private static int below(int bound) {
        row = row * 6364136223846793005L + 1442695040888963407L;
        return (int) ((row >>> 33) % bound);
    }

    private static void runOnBoth(int run) {
        row = run * 7919L + 17;
        JointVenture venture = new JointVenture();
        Model model = new Model();
        int setUp = 6 + below(12);
        int changing = 20 + below(60);
        int wells = 1 + below(6);
        int greatest = greatestAmount();
        for (int call = 0; call < CALLS; call++) {
            String name;
            if (call < setUp) {
                name = call == 0 ? "setShares" : call == 1 ? "setPenalty" : call == 2 ? "setOverhead"
                        : call < 3 + wells ? "addWell" : "elect";
            } else {
                name = below(100) < changing ? CHANGES[below(CHANGES.length)] : QUESTIONS[below(QUESTIONS.length)];
            }
            int[] arguments = argumentsOf(name, greatest, wells);
            String due = model.answer(name, arguments);
            String got = answerOf(venture, name, arguments);
            Check.equal("run " + run + ", call " + call + ", " + name + Arrays.toString(arguments), got, due);
            count(name, due);
        }
    }

    private static void count(String name, String due) {
        ANSWERED.merge(due, 1, Integer::sum);
        if (name.equals("backAt") && !due.equals("-1") && !due.equals("index")) {
            ANSWERED.merge("back", 1, Integer::sum);
        }
        if (name.equals("shareOut") && !due.equals("state") && !due.equals("index")) {
            ANSWERED.merge("shared", 1, Integer::sum);
        }
    }

    private static int greatestAmount() {
        int[] amounts = {3, 20, 1000, 100000, 10000000};
        return amounts[below(amounts.length)];
    }

    private static int[] argumentsOf(String name, int greatest, int wells) {
        int[] arguments;
        switch (name) {
            case "setShares": return someShares();
            case "setPenalty": arguments = new int[] {100 + below(901)}; break;
            case "setOverhead": arguments = new int[] {below(3) == 0 ? below(100001) : below(20)}; break;
            case "elect": arguments = new int[] {below(wells), below(5), below(4) == 0 ? 1 : 0}; break;
            case "cost":
            case "income":
            case "call": arguments = new int[] {below(wells), 1 + below(greatest)}; break;
            case "overhead": arguments = new int[] {below(wells), 1 + below(24)}; break;
            case "move": arguments = new int[] {below(60), below(wells)}; break;
            case "wellOf":
            case "amountOf": arguments = new int[] {below(60)}; break;
            case "pay":
            case "asked": arguments = new int[] {below(20), below(5)}; break;
            case "shareOut": arguments = new int[] {below(20)}; break;
            case "paid":
            case "owes":
            case "balance": arguments = new int[] {below(5)}; break;
            case "addWell":
            case "vouchers": return new int[0];
            default: arguments = new int[] {below(wells), below(5)};
        }
        if (below(40) == 0) {
            arguments[below(name.equals("elect") ? 2 : arguments.length)] = WRONG[below(WRONG.length)];
        }
        return arguments;
    }

    private static int[] someShares() {
        int[] shares = new int[5];
        int unit = below(2) == 0 ? 1 : 500;
        int left = 10000;
        for (int partner = 0; partner < 5; partner++) {
            shares[partner] = below(4) == 0 ? 0 : Math.min(left, below(4000 / unit) * unit);
            left -= shares[partner];
        }
        int last = below(5);
        shares[last] += below(40) == 0 ? left + 1 : left;
        return shares;
    }

    private static String answerOf(JointVenture venture, String name, int[] a) {
        try {
            return callOn(venture, name, a);
        } catch (RuntimeException thrown) {
            return thrown.getClass() == Check.INDEX ? "index" : thrown.getClass() == Check.ARGUMENT ? "argument"
                    : thrown.getClass() == Check.STATE ? "state" : thrown.toString();
        }
    }

    private static String callOn(JointVenture x, String name, int[] a) {
        switch (name) {
            case "setShares": x.setShares(a[0], a[1], a[2], a[3], a[4]); return "void";
            case "setPenalty": return "" + x.setPenalty(a[0]);
            case "setOverhead": return "" + x.setOverhead(a[0]);
            case "addWell": return "" + x.addWell();
            case "elect": return "" + x.elect(a[0], a[1], a[2] == 1);
            case "cost": return "" + x.cost(a[0], a[1]);
            case "overhead": return "" + x.overhead(a[0], a[1]);
            case "income": return "" + x.income(a[0], a[1]);
            case "move": return "" + x.move(a[0], a[1]);
            case "vouchers": return "" + x.vouchers();
            case "wellOf": return "" + x.wellOf(a[0]);
            case "amountOf": return "" + x.amountOf(a[0]);
            case "isIn": return "" + x.isIn(a[0], a[1]);
            case "toEarn": return "" + x.toEarn(a[0], a[1]);
            case "backAt": return "" + x.backAt(a[0], a[1]);
            case "charged": return "" + x.charged(a[0], a[1]);
            case "credited": return "" + x.credited(a[0], a[1]);
            case "weight": return "" + x.weight(a[0], a[1]);
            case "call": return "" + x.call(a[0], a[1]);
            case "pay": return "" + x.pay(a[0], a[1]);
            case "shareOut": return "" + x.shareOut(a[0]);
            case "asked": return "" + x.asked(a[0], a[1]);
            case "paid": return "" + x.paid(a[0]);
            case "owes": return "" + x.owes(a[0]);
            case "balance": return "" + x.balance(a[0]);
            default: throw new IllegalArgumentException(name);
        }
    }
}
