/** Promises 20 to 26: call, pay, shareOut, asked, paid, owes, balance. */
public final class CashTest {
    public static void main(String[] args) {
        callsAreMade();
        callsAreRefused();
        callsGoByWeightsOfTheirTime();
        partnersPay();
        paymentsAreRefused();
        callsAreSharedOut();
        sharingOutIsRefused();
        sharesOutAddUp();
        oneCentIsAPayment();
        cashNeedsACallAndAPartner();
        balancesAddUpAll();
        Check.end();
    }

    private static void dueAsked(String what, JointVenture x, int call, int[] due) {
        for (int partner = 0; partner < 5; partner++) {
            Check.equal(what + ", asked of " + partner, x.asked(call, partner), due[partner]);
        }
    }

    private static void callsAreMade() {
        JointVenture x = Ventures.withShares(5000, 3000, 2000, 0, 0);
        for (int number = 0; number < 20; number++) {
            Check.equal("number of the call", x.call(0, 100 + number), number);
        }
        dueAsked("100", x, 0, new int[] {50, 30, 20, 0, 0});
        dueAsked("101", x, 1, new int[] {51, 30, 20, 0, 0});
        dueAsked("119", x, 19, new int[] {59, 36, 24, 0, 0});
        Check.refused("a call too many", Check.STATE, () -> x.call(0, 1));
        Check.refused("amount ahead of state", Check.ARGUMENT, () -> x.call(0, 0));
        Check.refused("well ahead of amount", Check.INDEX, () -> x.call(1, 0));
        Check.equal("a call is no voucher", x.elect(0, 1, false), true);
    }

    private static void callsAreRefused() {
        JointVenture x = Ventures.withShares(5000, 3000, 2000, 0, 0);
        int[] wrongAmounts = {0, -1, 10000001, Integer.MIN_VALUE, Integer.MAX_VALUE};
        for (int amount : wrongAmounts) {
            Check.refused("call for " + amount, Check.ARGUMENT, () -> x.call(0, amount));
            Check.refused("call of no well", Check.INDEX, () -> x.call(1, amount));
            Check.refused("call of the well -1", Check.INDEX, () -> x.call(-1, amount));
        }
        Check.equal("the least call", x.call(0, 1), 0);
        Check.equal("the greatest call", x.call(0, 10000000), 1);
        dueAsked("1", x, 0, new int[] {1, 0, 0, 0, 0});
        dueAsked("10000000", x, 1, new int[] {5000000, 3000000, 2000000, 0, 0});
    }

    private static void callsGoByWeightsOfTheirTime() {
        JointVenture x = Ventures.withShares(5000, 3000, 2000, 0, 0);
        x.addWell();
        x.elect(0, 1, false);
        x.call(0, 10000000);
        x.call(1, 1000);
        int[] carried = {7143000, 0, 2857000, 0, 0};
        dueAsked("one is out", x, 0, carried);
        dueAsked("all in the other well", x, 1, new int[] {500, 300, 200, 0, 0});
        x.cost(1, 10);
        x.income(0, 10);
        x.call(0, 10);
        dueAsked("back", x, 2, new int[] {5, 3, 2, 0, 0});
        dueAsked("asked as before", x, 0, carried);
        x.move(0, 0);
        Check.equal("out again", x.isIn(0, 1), false);
        dueAsked("asked as before the move", x, 2, new int[] {5, 3, 2, 0, 0});
    }

    private static void partnersPay() {
        JointVenture x = Ventures.withShares(5000, 3000, 2000, 0, 0);
        x.call(0, 100);
        x.call(0, 10);
        Check.equal("pay", x.pay(0, 1), 30);
        Check.equal("paid", x.paid(1), 30);
        Check.equal("others have not", x.paid(0), 0);
        Check.equal("asked, paid or not", x.asked(0, 1), 30);
        Check.equal("pay the other call", x.pay(1, 1), 3);
        Check.equal("paid of all calls", x.paid(1), 33);
        Check.equal("balance", x.balance(1), 33);
    }

    private static void paymentsAreRefused() {
        JointVenture x = Ventures.withShares(5000, 3000, 2000, 0, 0);
        x.call(0, 1);
        Check.refused("pay of no call", Check.INDEX, () -> x.pay(1, 0));
        Check.refused("pay of the call -1", Check.INDEX, () -> x.pay(-1, 0));
        Check.refused("pay of no partner", Check.INDEX, () -> x.pay(0, 5));
        Check.refused("pay of the partner -1", Check.INDEX, () -> x.pay(0, -1));
        Check.refused("nothing asked", Check.STATE, () -> x.pay(0, 1));
        Check.refused("no share", Check.STATE, () -> x.pay(0, 3));
        x.pay(0, 0);
        Check.refused("paid already", Check.STATE, () -> x.pay(0, 0));
    }

    private static void callsAreSharedOut() {
        JointVenture x = Ventures.withShares(5000, 3000, 2000, 0, 0);
        x.call(0, 100);
        x.pay(0, 0);
        x.pay(0, 1);
        Check.equal("asked anew", x.shareOut(0), 20);
        // 20 by 50 and 30: 12 and 7, both with the remainder 40, so the cent goes to 0.
        dueAsked("shared out", x, 0, new int[] {63, 37, 0, 0, 0});
        Check.equal("2 owes", x.owes(2), 20);
        Check.equal("0 owes nothing", x.owes(0), 0);
        Check.equal("balance of 2", x.balance(2), -20);
        Check.equal("not paid yet", x.paid(0), 50);
        Check.refused("2 is not asked any more", Check.STATE, () -> x.pay(0, 2));
        Check.refused("shared out already", Check.STATE, () -> x.shareOut(0));
        Check.equal("0 pays the rest", x.pay(0, 0), 13);
        Check.equal("0 paid", x.paid(0), 63);
        Check.equal("1 pays the rest", x.pay(0, 1), 7);
        Check.refused("1 paid all", Check.STATE, () -> x.pay(0, 1));
    }

    private static void sharingOutIsRefused() {
        JointVenture x = Ventures.withShares(5000, 3000, 2000, 0, 0);
        x.call(0, 100);
        Check.refused("share out no call", Check.INDEX, () -> x.shareOut(1));
        Check.refused("share out the call -1", Check.INDEX, () -> x.shareOut(-1));
        Check.refused("nobody has paid", Check.STATE, () -> x.shareOut(0));
        x.pay(0, 0);
        x.pay(0, 1);
        x.pay(0, 2);
        Check.refused("all have paid", Check.STATE, () -> x.shareOut(0));
        x.call(0, 1);
        x.pay(1, 0);
        Check.refused("nobody else is asked", Check.STATE, () -> x.shareOut(1));
        x.call(0, 50);
        Check.refused("nobody has paid of this call", Check.STATE, () -> x.shareOut(2));
    }

    private static void sharesOutAddUp() {
        JointVenture x = Ventures.withShares(2500, 2500, 2500, 2500, 0);
        x.call(0, 1001);
        x.call(0, 400);
        x.pay(0, 3);
        x.pay(1, 2);
        x.pay(1, 3);
        Check.equal("first asked anew", x.shareOut(0), 751);
        dueAsked("all by one", x, 0, new int[] {0, 0, 0, 1001, 0});
        Check.equal("second asked anew", x.shareOut(1), 200);
        dueAsked("all by two", x, 1, new int[] {0, 0, 200, 200, 0});
        Check.equal("0 owes of both", x.owes(0), 351);
        Check.equal("1 owes of both", x.owes(1), 350);
        Check.equal("2 owes of one", x.owes(2), 250);
        Check.equal("3 owes nothing", x.owes(3), 0);
        Check.equal("pay of the first", x.pay(0, 3), 751);
        JointVenture y = Ventures.withShares(1, 4999, 5000, 0, 0);
        y.call(0, 10000000);
        y.pay(0, 1);
        y.pay(0, 0);
        Check.equal("great sums", y.shareOut(0), 5000000);
        dueAsked("great sums", y, 0, new int[] {2000, 9998000, 0, 0, 0});
    }

    private static void oneCentIsAPayment() {
        JointVenture x = Ventures.withShares(5000, 3000, 2000, 0, 0);
        x.call(0, 3);
        dueAsked("3", x, 0, new int[] {1, 1, 1, 0, 0});
        x.pay(0, 2);
        Check.equal("asked anew", x.shareOut(0), 2);
        dueAsked("shared out", x, 0, new int[] {0, 0, 3, 0, 0});
        Check.equal("2 owes nothing", x.owes(2), 0);
        Check.equal("2 pays the rest", x.pay(0, 2), 2);
    }

    private static void cashNeedsACallAndAPartner() {
        JointVenture x = Ventures.withShares(5000, 3000, 2000, 0, 0);
        x.call(0, 100);
        int[] wrongCalls = {-1, 1, 20, Integer.MAX_VALUE, Integer.MIN_VALUE};
        for (int number : wrongCalls) {
            Check.refused("asked of the call " + number, Check.INDEX, () -> x.asked(number, 0));
        }
        int[] wrongPartners = {-1, 5, Integer.MAX_VALUE, Integer.MIN_VALUE};
        for (int partner : wrongPartners) {
            Check.refused("asked of the partner " + partner, Check.INDEX, () -> x.asked(0, partner));
            Check.refused("paid of " + partner, Check.INDEX, () -> x.paid(partner));
            Check.refused("owes of " + partner, Check.INDEX, () -> x.owes(partner));
            Check.refused("balance of " + partner, Check.INDEX, () -> x.balance(partner));
        }
    }

    private static void balancesAddUpAll() {
        JointVenture x = Ventures.withShares(5000, 3000, 2000, 0, 0);
        x.addWell();
        x.cost(0, 100);
        x.cost(1, 1000);
        x.income(0, 10);
        x.income(1, 20);
        x.call(0, 200);
        x.call(1, 400);
        x.pay(0, 0);
        x.pay(1, 0);
        x.pay(1, 1);
        x.shareOut(0);
        Check.equal("balance of 0", x.balance(0), 100 + 200 + 5 + 10 - 50 - 500);
        Check.equal("balance of 1", x.balance(1), 120 + 3 + 6 - 30 - 300 - 60);
        Check.equal("balance of 2", x.balance(2), 2 + 4 - 20 - 200 - 40);
        Check.equal("balance without share", x.balance(4), 0);
    }
}
