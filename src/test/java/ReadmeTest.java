/** The examples of README.md, with each answer that is told there. A change there is made here as well. */
public final class ReadmeTest {
    public static void main(String[] args) {
        Check.runAll(ReadmeTest.class);
    }

    static void aPartnerStaysOutAndComesInAgain() {
        JointVenture venture = new JointVenture();
        venture.setShares(5000, 3000, 2000, 0, 0);
        Check.equal("the penalty before", venture.setPenalty(200), 300);
        int well = venture.addWell();
        Check.equal("the well", well, 0);
        Check.equal("the partner 1 was in", venture.elect(well, 1, false), true);

        Check.equal("the cost", venture.cost(well, 10001), 0);
        Check.equal("charged to 0", venture.charged(well, 0), 7144);
        Check.equal("charged to 1", venture.charged(well, 1), 0);
        Check.equal("charged to 2", venture.charged(well, 2), 2857);
        Check.equal("to earn of 1", venture.toEarn(well, 1), 6000);

        Check.equal("the first income", venture.income(well, 10000), 1);
        Check.equal("credited to 0", venture.credited(well, 0), 7143);
        Check.equal("credited to 1", venture.credited(well, 1), 0);
        Check.equal("to earn of 1", venture.toEarn(well, 1), 3000);

        Check.equal("the second income", venture.income(well, 11000), 2);
        Check.equal("credited to 1", venture.credited(well, 1), 300);
        Check.equal("in is 1", venture.isIn(well, 1), true);
        Check.equal("by which voucher", venture.backAt(well, 1), 2);
        Check.equal("by none", venture.backAt(well, 0), JointVenture.NONE);

        anAuditMovesTheCost(venture, well);
    }

    private static void anAuditMovesTheCost(JointVenture venture, int well) {
        int other = venture.addWell();
        Check.equal("the well before", venture.move(0, other), 0);
        Check.equal("charged in the old well", venture.charged(well, 0), 0);
        Check.equal("charged in the new well", venture.charged(other, 1), 3000);
        Check.equal("nothing to earn", venture.toEarn(well, 1), 0);
        Check.equal("by which voucher", venture.backAt(well, 1), 1);
        cashIsCalledAhead(venture, other);
    }

    private static void cashIsCalledAhead(JointVenture venture, int other) {
        Check.equal("the weight of 1", venture.weight(other, 1), 3000);
        int call = venture.call(other, 1000);
        Check.equal("asked of 0", venture.asked(call, 0), 500);
        Check.equal("0 pays", venture.pay(call, 0), 500);
        Check.equal("2 pays", venture.pay(call, 2), 200);
        Check.equal("asked anew", venture.shareOut(call), 300);
        Check.equal("asked of 0", venture.asked(call, 0), 714);
        Check.equal("asked of 1", venture.asked(call, 1), 0);
        Check.equal("owed by 1", venture.owes(1), 300);
        Check.equal("0 pays the rest", venture.pay(call, 0), 214);
        Check.equal("paid by 0", venture.paid(0), 714);
        Check.equal("balance of 0", venture.balance(0), 6213);
        Check.equal("balance of 1", venture.balance(1), 3000);
        Check.refused("nothing is asked of 1", Check.STATE, () -> venture.pay(call, 1));
        Check.equal("balance as before", venture.balance(1), 3000);
    }
}
