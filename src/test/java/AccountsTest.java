/** Promises 14 to 19: isIn, toEarn, backAt, charged, credited, weight. */
public final class AccountsTest {
    public static void main(String[] args) {
        accountsNeedAWellAndAPartner();
        leftCentsGoToTheGreatestRemainders();
        leftCentsGoToTheLowerNumbersAtFirst();
        costsAreDividedTwice();
        whatIsToEarnIsRoundedUpForEachCost();
        accountsHoldGreatSums();
        incomeIsTakenUntilThePenaltyIsEarned();
        whatIsTakenIsDividedForEachPartnerAlone();
        oneWithNothingToEarnComesInWithTheFirstIncome();
        thoseWhoComeInTakeNothingOfTheSameIncome();
        aPartnerStaysOutUntilAnIncome();
        weightsFollowWhoIsIn();
        wellsHaveAccountsOfTheirOwn();
        questionsAboutOneWellLeaveTheOthers();
        Check.end();
    }

    private static void dueForAll(String what, JointVenture x, int[] charged, int[] credited) {
        for (int partner = 0; partner < 5; partner++) {
            Check.equal(what + ", charged of " + partner, x.charged(0, partner), charged[partner]);
            Check.equal(what + ", credited of " + partner, x.credited(0, partner), credited[partner]);
        }
    }

    private static void accountsNeedAWellAndAPartner() {
        JointVenture x = Ventures.withShares(5000, 3000, 2000, 0, 0);
        int[][] wrong = {{-1, 0}, {1, 0}, {6, 0}, {0, -1}, {0, 5}, {Integer.MAX_VALUE, 0}, {0, Integer.MIN_VALUE}};
        for (int[] pair : wrong) {
            Check.refused("isIn", Check.INDEX, () -> x.isIn(pair[0], pair[1]));
            Check.refused("toEarn", Check.INDEX, () -> x.toEarn(pair[0], pair[1]));
            Check.refused("backAt", Check.INDEX, () -> x.backAt(pair[0], pair[1]));
            Check.refused("charged", Check.INDEX, () -> x.charged(pair[0], pair[1]));
            Check.refused("credited", Check.INDEX, () -> x.credited(pair[0], pair[1]));
            Check.refused("weight", Check.INDEX, () -> x.weight(pair[0], pair[1]));
        }
    }

    private static void leftCentsGoToTheGreatestRemainders() {
        JointVenture x = Ventures.withShares(3333, 3333, 3334, 0, 0);
        x.cost(0, 100);
        x.income(0, 100);
        dueForAll("100", x, new int[] {33, 33, 34, 0, 0}, new int[] {33, 33, 34, 0, 0});
        JointVenture y = Ventures.withShares(1000, 2000, 3000, 4000, 0);
        y.cost(0, 7);
        dueForAll("7", y, new int[] {1, 1, 2, 3, 0}, new int[5]);
        JointVenture z = Ventures.withShares(0, 0, 1, 9999, 0);
        z.cost(0, 1);
        z.income(0, 10000000);
        dueForAll("1", z, new int[] {0, 0, 0, 1, 0}, new int[] {0, 0, 1000, 9999000, 0});
    }

    private static void leftCentsGoToTheLowerNumbersAtFirst() {
        for (int left = 0; left < 5; left++) {
            JointVenture x = Ventures.withShares(2000, 2000, 2000, 2000, 2000);
            x.cost(0, 5 + left);
            x.income(0, 10 + left);
            for (int partner = 0; partner < 5; partner++) {
                int cent = partner < left ? 1 : 0;
                Check.equal("charged, left " + left, x.charged(0, partner), 1 + cent);
                Check.equal("credited, left " + left, x.credited(0, partner), 2 + cent);
            }
        }
        JointVenture y = Ventures.withShares(0, 2500, 2500, 2500, 2500);
        y.cost(0, 2);
        dueForAll("without share", y, new int[] {0, 1, 1, 0, 0}, new int[5]);
    }

    private static void costsAreDividedTwice() {
        JointVenture x = Ventures.withShares(5000, 3000, 2000, 0, 0);
        x.elect(0, 1, false);
        x.cost(0, 10001);
        dueForAll("one out", x, new int[] {7144, 0, 2857, 0, 0}, new int[5]);
        Check.equal("to earn", x.toEarn(0, 1), 9000);
        Check.equal("one who is in has nothing to earn", x.toEarn(0, 0), 0);
        JointVenture y = Ventures.withShares(2500, 2500, 2500, 2500, 0);
        y.elect(0, 2, false);
        y.elect(0, 3, false);
        y.cost(0, 6);
        // The own parts are 2, 2, 1 and 1; those who are out have 2 together, 1 for each who is in.
        dueForAll("two out", y, new int[] {3, 3, 0, 0, 0}, new int[5]);
        Check.equal("to earn of 2", y.toEarn(0, 2), 3);
        JointVenture z = Ventures.withShares(2000, 2000, 2000, 2000, 2000);
        z.elect(0, 3, false);
        z.elect(0, 4, false);
        z.cost(0, 6);
        // The own parts are 2, 1, 1, 1 and 1; the 2 of those who are out go to 0 and 1.
        dueForAll("rounded two times", z, new int[] {3, 2, 1, 0, 0}, new int[5]);
    }

    private static void whatIsToEarnIsRoundedUpForEachCost() {
        JointVenture x = new JointVenture();
        x.setShares(5000, 5000, 0, 0, 0);
        x.setPenalty(101);
        x.addWell();
        x.elect(0, 1, false);
        x.cost(0, 2);
        Check.equal("1.01 rounded up", x.toEarn(0, 1), 2);
        x.cost(0, 2);
        Check.equal("each cost rounded up", x.toEarn(0, 1), 4);
        x.cost(0, 200);
        Check.equal("101 stays 101", x.toEarn(0, 1), 105);
        x.cost(0, 1);
        Check.equal("an own part of 0", x.toEarn(0, 1), 105);
    }

    private static void accountsHoldGreatSums() {
        JointVenture x = new JointVenture();
        x.setShares(1, 9999, 0, 0, 0);
        x.setPenalty(1000);
        x.addWell();
        x.elect(0, 1, false);
        for (int voucher = 0; voucher < 60; voucher++) {
            x.cost(0, 10000000);
        }
        Check.equal("to earn", x.toEarn(0, 1), 5999400000L);
        Check.equal("charged", x.charged(0, 0), 600000000);
        Check.equal("balance", x.balance(0), -600000000L);
        JointVenture y = Ventures.withShares(10000, 0, 0, 0, 0);
        for (int voucher = 0; voucher < 60; voucher++) {
            y.income(0, 10000000);
        }
        Check.equal("credited", y.credited(0, 0), 600000000);
    }

    private static void incomeIsTakenUntilThePenaltyIsEarned() {
        JointVenture x = new JointVenture();
        x.setShares(5000, 3000, 2000, 0, 0);
        x.setPenalty(200);
        x.addWell();
        x.elect(0, 1, false);
        x.cost(0, 1000);
        Check.equal("to earn", x.toEarn(0, 1), 600);
        x.income(0, 1000);
        dueForAll("all taken", x, new int[] {714, 0, 286, 0, 0}, new int[] {714, 0, 286, 0, 0});
        Check.equal("half earned", x.toEarn(0, 1), 300);
        Check.equal("out still", x.isIn(0, 1), false);
        Check.equal("not back", x.backAt(0, 1), JointVenture.NONE);
        x.income(0, 1010);
        Check.equal("the rest of the own part", x.credited(0, 1), 3);
        Check.equal("nothing to earn", x.toEarn(0, 1), 0);
        Check.equal("in again", x.isIn(0, 1), true);
        Check.equal("back", x.backAt(0, 1), 2);
        Check.equal("one who was in", x.backAt(0, 0), JointVenture.NONE);
        x.cost(0, 10);
        Check.equal("charged again", x.charged(0, 1), 3);
        x.income(0, 10);
        Check.equal("credited again", x.credited(0, 1), 6);
        Check.equal("back as before", x.backAt(0, 1), 2);
    }

    private static void whatIsTakenIsDividedForEachPartnerAlone() {
        JointVenture x = Ventures.withShares(2500, 2500, 2500, 2500, 0);
        x.elect(0, 2, false);
        x.elect(0, 3, false);
        x.cost(0, 1000);
        x.income(0, 4);
        // Each cent that is taken alone goes to the lower number of the two who are in.
        dueForAll("cents", x, new int[] {500, 500, 0, 0, 0}, new int[] {3, 1, 0, 0, 0});
        Check.equal("to earn of 2", x.toEarn(0, 2), 749);
        Check.equal("to earn of 3", x.toEarn(0, 3), 749);
    }

    private static void oneWithNothingToEarnComesInWithTheFirstIncome() {
        JointVenture x = Ventures.withShares(6000, 4000, 0, 0, 0);
        x.elect(0, 1, false);
        x.income(0, 10);
        dueForAll("nothing to earn", x, new int[5], new int[] {6, 4, 0, 0, 0});
        Check.equal("in again", x.isIn(0, 1), true);
        Check.equal("back with the voucher 0", x.backAt(0, 1), 0);
        Check.equal("no partner without share", x.isIn(0, 2), false);
        Check.equal("no way back without share", x.backAt(0, 2), JointVenture.NONE);
    }

    private static void thoseWhoComeInTakeNothingOfTheSameIncome() {
        JointVenture x = Ventures.withShares(9000, 100, 900, 0, 0);
        x.elect(0, 1, false);
        x.elect(0, 2, false);
        x.cost(0, 10);
        Check.equal("to earn of 1", x.toEarn(0, 1), 0);
        Check.equal("to earn of 2", x.toEarn(0, 2), 3);
        x.income(0, 10);
        Check.equal("1 is back", x.backAt(0, 1), 1);
        Check.equal("2 is out", x.isIn(0, 2), false);
        dueForAll("first income", x, new int[] {10, 0, 0, 0, 0}, new int[] {10, 0, 0, 0, 0});
        x.income(0, 100000);
        Check.equal("2 is back", x.backAt(0, 2), 2);
        dueForAll("second income", x, new int[] {10, 0, 0, 0, 0}, new int[] {90012, 1000, 8998, 0, 0});
        JointVenture y = Ventures.withShares(5000, 1000, 4000, 0, 0);
        y.elect(0, 1, false);
        y.elect(0, 2, false);
        y.cost(0, 1000);
        y.income(0, 4000);
        // 1 comes in by this income, but the 1200 of 2 go to 0 alone.
        dueForAll("both back", y, new int[] {1000, 0, 0, 0, 0}, new int[] {3500, 100, 400, 0, 0});
    }

    private static void aPartnerStaysOutUntilAnIncome() {
        JointVenture x = Ventures.withShares(5000, 5000, 0, 0, 0);
        x.addWell();
        x.elect(0, 1, false);
        x.cost(0, 100);
        x.move(0, 1);
        Check.equal("nothing to earn", x.toEarn(0, 1), 0);
        Check.equal("out still", x.isIn(0, 1), false);
        Check.equal("not back", x.backAt(0, 1), JointVenture.NONE);
        Check.equal("no weight", x.weight(0, 1), 0);
        x.income(0, 1);
        Check.equal("in", x.isIn(0, 1), true);
        Check.equal("back", x.backAt(0, 1), 1);
    }

    private static void weightsFollowWhoIsIn() {
        JointVenture x = Ventures.withShares(3333, 3334, 3333, 0, 0);
        int[] all = {3333, 3334, 3333, 0, 0};
        int[] withoutSecond = {5000, 0, 5000, 0, 0};
        dueWeights("all in", x, all);
        x.elect(0, 1, false);
        dueWeights("one out", x, withoutSecond);
        x.cost(0, 100);
        dueWeights("behind a cost", x, withoutSecond);
        x.income(0, 1000);
        dueWeights("back", x, all);
        JointVenture y = Ventures.withShares(5000, 3000, 2000, 0, 0);
        y.elect(0, 1, false);
        dueWeights("rounded", y, new int[] {7143, 0, 2857, 0, 0});
        Check.equal("asking changed nothing", y.charged(0, 0), 0);
    }

    private static void dueWeights(String what, JointVenture x, int[] due) {
        for (int partner = 0; partner < 5; partner++) {
            Check.equal("weight, " + what, x.weight(0, partner), due[partner]);
        }
    }

    private static void wellsHaveAccountsOfTheirOwn() {
        JointVenture x = Ventures.withShares(5000, 5000, 0, 0, 0);
        x.addWell();
        x.elect(0, 1, false);
        x.elect(1, 0, false);
        x.cost(0, 10);
        x.cost(1, 30);
        x.income(1, 200);
        Check.equal("charged of 0", x.charged(0, 0), 10);
        Check.equal("charged of 1", x.charged(1, 1), 30);
        Check.equal("not charged in 1", x.charged(1, 0), 0);
        Check.equal("to earn in 0", x.toEarn(0, 1), 15);
        Check.equal("nothing credited in 0", x.credited(0, 0), 0);
        Check.equal("credited in 1", x.credited(1, 1), 145);
        Check.equal("the rest in 1", x.credited(1, 0), 55);
        Check.equal("back in 1", x.backAt(1, 0), 2);
        Check.equal("out of 0", x.isIn(0, 1), false);
    }

    private static void questionsAboutOneWellLeaveTheOthers() {
        JointVenture x = Ventures.withShares(3000, 3000, 4000, 0, 0);
        x.addWell();
        x.elect(0, 0, false);
        x.cost(0, 1000);
        Check.equal("weight in the other well", x.weight(1, 0), 3000);
        x.income(0, 100);
        // 0 is out, so the 30 that are taken go to 1 and 2: 12.86 and 17.14.
        dueForAll("income of the first well", x, new int[] {0, 429, 571, 0, 0}, new int[] {0, 43, 57, 0, 0});
        x.cost(0, 1000);
        x.call(1, 50);
        dueForAll("behind a call", x, new int[] {0, 858, 1142, 0, 0}, new int[] {0, 43, 57, 0, 0});
    }
}
