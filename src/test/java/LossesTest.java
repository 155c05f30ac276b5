/** Promise 11: in which order the loss is eaten, and how each step is parted. */
public final class LossesTest {
    public static void main(String[] args) {
        orderOfSteps();
        partsOfShares();
        restOfShares();
        juniorsFirst();
        juniorOfThisAuction();
        assessments();
        assessmentsUnderNotice();
        assessmentsByEarlierShares();
        assessmentsAddUp();
        boundsWhileParting();
        tenMembersWhileParting();
        manyRoundsForOne();
        gains();
        gainsSetInBetween();
        greatAmounts();
        failedOnesBearNothing();
        ownFundsOfTheFailed();
        sharesOfThoseUnderNotice();
        capOfEachFailure();
        halfOfSmallShares();
        assessedWhateverTheRank();
        sharesWhenTheMemberFailed();
        gainsAboveNone();
        losersThatHaveGone();
        Check.end();
    }

    /** What is left of margin, share, capital, shares, assessments and gains by a loss. */
    private static void steps(int loss, int capital, int junior, int senior, int[] assessed, int[] gains, int left) {
        DefaultFund fund = new DefaultFund();
        fund.addMember(100, 100, 0);
        fund.addMember(1000, 100, 0);
        fund.addMember(1000, 100, 0);
        fund.setCapital(100);
        fund.setGain(0, 100);
        fund.setGain(1, 100);
        fund.setGain(2, 50);
        fund.fail(0, 2);
        fund.bid(2, 0, -(loss / 2));
        fund.bid(2, 1, -(loss - loss / 2));
        Check.same("uncovered of " + loss, fund.close(), left);
        Check.same("loss", fund.loss(), loss);
        Check.same("capital by " + loss, fund.capital(), capital);
        Check.same("junior's share by " + loss, fund.share(1), junior);
        Check.same("other's share by " + loss, fund.share(2), senior);
        for (int i = 0; i < 2; i++) {
            Check.same("assessed by " + loss, fund.assessed(i + 1), assessed[i]);
            Check.same("gain by " + loss, fund.gain(i + 1), gains[i]);
            Check.same("margins of others", fund.margin(i + 1), 1000);
        }
        Check.same("margin of the failed", fund.margin(0), 0);
        Check.same("share of the failed", fund.share(0), 0);
        Check.same("gain of the failed", fund.gain(0), 0);
        Check.same("all that was uncovered", fund.uncovered(), left);
    }

    private static void orderOfSteps() {
        int[] none = {0, 0};
        int[] all = {100, 50};
        int[] full = {100, 100};
        steps(0, 100, 100, 100, none, all, 0);
        steps(100, 100, 100, 100, none, all, 0);
        steps(200, 100, 100, 100, none, all, 0);
        steps(201, 99, 100, 100, none, all, 0);
        steps(300, 0, 100, 100, none, all, 0);
        steps(301, 0, 99, 100, none, all, 0);
        steps(400, 0, 0, 100, none, all, 0);
        steps(401, 0, 0, 99, none, all, 0);
        steps(500, 0, 0, 0, none, all, 0);
        steps(501, 0, 0, 0, new int[] {1, 0}, all, 0);
        steps(700, 0, 0, 0, full, all, 0);
        steps(701, 0, 0, 0, full, new int[] {99, 50}, 0);
        steps(702, 0, 0, 0, full, new int[] {98, 50}, 0);
        steps(703, 0, 0, 0, full, new int[] {98, 49}, 0);
        steps(850, 0, 0, 0, full, none, 0);
        steps(851, 0, 0, 0, full, none, 1);
        steps(2000, 0, 0, 0, full, none, 1150);
    }

    /** Lets the last member fail without anything of its own; the loss is told by one more bidder's price. */
    private static DefaultFund lossOf(int loss, DefaultFund fund, int bidder) {
        int failed = fund.addMember(0, 0, 0);
        int lots = Math.max(1, (loss + 999) / 1000);
        fund.fail(failed, lots);
        for (int lot = 0; lot < lots; lot++) {
            fund.bid(bidder, lot, -Math.min(1000, loss - 1000 * lot));
        }
        fund.close();
        Check.same("loss", fund.loss(), loss);
        return fund;
    }

    private static void shares(String what, DefaultFund fund, int... due) {
        for (int i = 0; i < due.length; i++) {
            Check.same(what + ", share of " + i, fund.share(i), due[i]);
        }
    }

    private static void assessed(String what, DefaultFund fund, int... due) {
        for (int i = 0; i < due.length; i++) {
            Check.same(what + ", assessed of " + i, fund.assessed(i), due[i]);
        }
    }

    private static void partsOfShares() {
        // 60 by 10, 20, 30, 40: 6, 12, 18, 24.
        shares("even parts", lossOf(60, Funds.withShares(10, 20, 30, 40, 0), 4), 4, 8, 12, 16, 0);
        // 100 takes them all.
        DefaultFund fund = lossOf(100, Funds.withShares(10, 20, 30, 40, 0), 4);
        shares("all", fund, 0, 0, 0, 0, 0);
        assessed("nothing yet", fund, 0, 0, 0, 0, 0);
        fund = lossOf(101, Funds.withShares(10, 20, 30, 40, 0), 4);
        assessed("the first coin", fund, 1, 0, 0, 0, 0);
    }

    private static void restOfShares() {
        // 5 by 2, 0, 2, 2: 1, 0, 1, 1, and the rest of 2 to members 0 and 2.
        shares("the rest", lossOf(5, Funds.withShares(2, 0, 2, 2, 0), 4), 0, 0, 0, 1);
        // 4 by 1, 9, 9: 0, 1, 1, and the rest of 2 to members 0 and 1.
        shares("from the first", lossOf(4, Funds.withShares(1, 9, 9, 0), 3), 0, 7, 8);
        // 18 by 1, 9, 9: 0, 8, 8, and the rest of 2 to members 0 and 1.
        shares("bounds of shares", lossOf(18, Funds.withShares(1, 9, 9, 0), 3), 0, 0, 1);
    }

    private static void juniorsFirst() {
        DefaultFund fund = Funds.withShares(7, 10, 8, 10, 100);
        fund.fail(4, 2);
        fund.bid(1, 0, -61);
        fund.bid(3, 1, -50);
        fund.close();
        // 11 behind the failed share: by 7 and 8: 5, 5, and the rest of 1 to member 0.
        shares("juniors", fund, 1, 10, 3, 10, 0);
        fund = Funds.withShares(7, 10, 8, 10, 100);
        fund.fail(4, 2);
        fund.bid(1, 0, -70);
        fund.bid(3, 1, -50);
        fund.close();
        // 20: 15 of juniors, and 5 by 10 and 10: 2, 2, and the rest of 1 to member 1.
        shares("then the others", fund, 0, 7, 0, 8, 0);
        assessed("none yet", fund, 0, 0, 0, 0, 0);
    }

    private static void juniorOfThisAuction() {
        DefaultFund fund = Funds.withShares(0, 100, 100, 0);
        fund.fail(0, 1);
        fund.bid(1, 0, 0);
        fund.close();
        Check.same("junior by the first auction", fund.isJunior(2), true);
        fund.fail(3, 1);
        fund.bid(2, 0, -30);
        fund.close();
        shares("the second decides", fund, 0, 70, 100, 0);
    }

    private static void assessments() {
        // All 50 of the shares, then 25 by 10, 10, 30: 5, 5, 15.
        DefaultFund fund = lossOf(75, Funds.withShares(10, 10, 30, 0), 3);
        assessed("parted by shares before", fund, 5, 5, 15, 0);
        shares("eaten before", fund, 0, 0, 0, 0);
        fund = lossOf(101, Funds.withShares(10, 10, 30, 0), 3);
        assessed("up to the cap", fund, 10, 10, 30, 0, 0);
        Check.same("beyond it", fund.uncovered(), 1);
    }

    private static void assessmentsUnderNotice() {
        DefaultFund fund = Funds.withShares(11, 11, 0);
        fund.giveNotice(0);
        lossOf(22 + 4, fund, 2);
        // The weight is the whole: 4 by 11 and 11 is 2 and 2.
        assessed("the whole weighs", fund, 2, 2, 0);
        fund = Funds.withShares(11, 11, 0);
        fund.giveNotice(0);
        lossOf(22 + 12, fund, 2);
        // 6 and 6, but at most 5 of 11 under notice: the rest of 1 to member 1.
        assessed("half bounds", fund, 5, 7, 0);
        fund = Funds.withShares(11, 11, 0);
        fund.giveNotice(0);
        lossOf(22 + 17, fund, 2);
        assessed("half and whole", fund, 5, 11, 0);
        Check.same("beyond both", fund.uncovered(), 1);
        fund = Funds.withShares(1, 0);
        fund.giveNotice(0);
        lossOf(1 + 1, fund, 1);
        assessed("half of 1 is none", fund, 0, 0);
        Check.same("which is uncovered", fund.uncovered(), 1);
    }

    private static void assessmentsByEarlierShares() {
        DefaultFund fund = Funds.withShares(0, 6, 0);
        fund.fail(0, 1);
        int late = fund.addMember(0, 1000, 0);
        fund.bid(1, 0, -1000);
        fund.close();
        // The late one is junior and bears all with the share that it brings.
        Check.same("late share", fund.share(late), 0);
        Check.same("share", fund.share(1), 6);
        fund = Funds.withShares(0, 6, 0);
        fund.fail(0, 2);
        late = fund.addMember(0, 100, 0);
        fund.bid(1, 0, -1000);
        fund.close();
        Check.same("it had no share when the member failed", fund.assessed(late), 0);
        Check.same("one that had", fund.assessed(1), 6);
        Check.same("uncovered", fund.uncovered(), 2000 - 100 - 6 - 6);
    }

    private static void assessmentsAddUp() {
        DefaultFund fund = new DefaultFund();
        fund.addMember(1, 10, 0);
        fund.addMember(0, 0, 0);
        fund.addMember(0, 0, 0);
        fund.setTested(0, 30);
        fund.fail(1, 1);
        fund.bid(0, 0, -14);
        fund.close();
        Check.same("at first", fund.assessed(0), 4);
        Check.same("sized again", fund.size(), 30);
        fund.fail(2, 1);
        fund.bid(0, 0, -33);
        fund.close();
        Check.same("so far", fund.assessed(0), 7);
        fund.fail(0, 1);
        fund.close();
        Check.same("the failed one's stay", fund.assessed(0), 7);
    }

    private static void boundsWhileParting() {
        DefaultFund fund = Funds.withShares(10, 2, 10, 7, 0);
        fund.giveNotice(0);
        fund.giveNotice(1);
        fund.giveNotice(2);
        lossOf(29 + 16, fund, 4);
        // 16 by 10, 2, 10, 7: 5, 1, 5, 3 with bounds 5, 1, 5, 7: the rest of 2 to member 3.
        assessed("only one is open", fund, 5, 1, 5, 5, 0);
        fund = Funds.withShares(10, 2, 10, 7, 0);
        fund.giveNotice(0);
        fund.giveNotice(2);
        lossOf(29 + 18, fund, 4);
        // 6, 1, 6, 4 with bounds 5, 2, 5, 7: 5, 1, 5, 4; the rest of 3: member 1, member 3, member 3.
        assessed("one fills in the first round", fund, 5, 2, 5, 6, 0);
        fund = Funds.withShares(100, 3, 5, 100, 0);
        fund.giveNotice(0);
        lossOf(208 + 110, fund, 4);
        // 52, 1, 2, 52 with bounds 50, 3, 5, 100: 50, 1, 2, 52; rest 5: 1, 2, 3, 1, 2.
        assessed("two rounds", fund, 50, 3, 4, 53, 0);
        fund = Funds.withShares(1000, 3, 5, 1000, 0);
        fund.giveNotice(0);
        lossOf(2008 + 1400, fund, 4);
        // 697, 2, 3, 697 with bounds 500, 3, 5, 1000: 500, 2, 3, 697; the rest of 198 in rounds.
        assessed("many rounds", fund, 500, 3, 5, 892, 0);
        Check.same("all is borne", fund.uncovered(), 0);
        fund = Funds.withShares(5, 3, 1000, 1000, 0);
        fund.giveNotice(2);
        lossOf(2008 + 1400, fund, 4);
        assessed("the bound of the first", fund, 5, 3, 500, 892, 0);
    }

    /** One under notice leaves a great rest, and the others reach their bounds one behind the other. */
    private static void tenMembersWhileParting() {
        int[][] due = {
            {2750, 10, 20, 24, 29, 34, 39, 44, 50},
            {2850, 10, 20, 30, 40, 50, 60, 68, 72},
            {2855, 10, 20, 30, 40, 50, 60, 70, 75},
            {2859, 10, 20, 30, 40, 50, 60, 70, 79},
            {2860, 10, 20, 30, 40, 50, 60, 70, 80},
            {2861, 10, 20, 30, 40, 50, 60, 70, 80},
        };
        for (int[] row : due) {
            DefaultFund fund = Funds.withShares(5000, 10, 20, 30, 40, 50, 60, 70, 80);
            fund.giveNotice(0);
            lossOf(5360 + row[0], fund, 8);
            Check.same("half under notice", fund.assessed(0), 2500);
            for (int i = 1; i < 9; i++) {
                Check.same("parts of " + row[0] + ", assessed of " + i, fund.assessed(i), row[i]);
            }
            Check.same("all bounds reached", fund.uncovered(), row[0] > 2860 ? 1 : 0);
            Check.same("the tenth bears nothing", fund.assessed(9), 0);
        }
    }

    private static void manyRoundsForOne() {
        DefaultFund fund = new DefaultFund();
        fund.addMember(0, 0, 100);
        fund.addMember(0, 30000, 0);
        fund.addMember(0, 30000, 0);
        for (int i = 0; i < 84; i++) {
            fund.addClient(0, 1);
        }
        fund.giveNotice(1);
        Check.same("lots", fund.fail(0, 20), 104);
        Check.same("all is borne", fund.close(), 0);
        // 44000 behind the shares: 22000 each, at most 15000 under notice: 7000 rounds for the other.
        assessed("many rounds for one", fund, 0, 15000, 29000);
    }

    private static void gains() {
        DefaultFund fund = Funds.withShares(0, 0, 0, 0);
        fund.setGain(0, 4);
        fund.setGain(2, 3);
        fund.setGain(3, 5);
        fund.giveNotice(3);
        lossOf(7, fund, 1);
        // 7 by 4, 3, 5: 2, 1, 2, and the rest of 2 to members 0 and 2.
        Check.same("the first", fund.gain(0), 1);
        Check.same("without", fund.gain(1), 0);
        Check.same("the second", fund.gain(2), 1);
        Check.same("under notice has left", fund.gain(3), 0);
        Check.same("all is borne", fund.uncovered(), 0);
        fund = Funds.withShares(0, 0);
        fund.setGain(0, 4);
        lossOf(6, fund, 1);
        Check.same("cut to nothing", fund.gain(0), 0);
        Check.same("the rest", fund.uncovered(), 2);
        fund = Funds.withShares(0, 0);
        fund.setGain(0, 4);
        fund.giveNotice(0);
        lossOf(4, fund, 1);
        Check.same("one under notice bears", fund.uncovered(), 0);
    }

    private static void gainsSetInBetween() {
        DefaultFund fund = Funds.withShares(0, 0);
        fund.fail(0, 1);
        fund.setGain(1, 600);
        fund.setCapital(300);
        Check.same("as they are at the end", fund.close(), 100);
    }

    private static void greatAmounts() {
        DefaultFund fund = new DefaultFund();
        for (int i = 0; i < 10; i++) {
            fund.addMember(0, i == 0 ? 0 : 1000000, i == 0 ? 100 : 0);
        }
        for (int i = 0; i < 100; i++) {
            fund.addClient(0, 1);
        }
        Check.same("lots", fund.fail(0, 20), 120);
        fund.close();
        Check.same("loss", fund.loss(), 120000);
        // 120000 by nine equal shares: 13333 each, and the rest of 3 to members 1 to 3.
        shares("great shares", fund, 0, 986666, 986666, 986666, 986667, 986667, 986667, 986667, 986667, 986667);
        fund = new DefaultFund();
        fund.addMember(0, 0, 100);
        fund.addMember(0, 100000, 0);
        fund.addMember(0, 100000, 0);
        for (int i = 0; i < 100; i++) {
            fund.addClient(0, 1);
        }
        fund.giveNotice(1);
        fund.fail(0, 20);
        Check.same("all shares stand for it", fund.close(), 0);
        shares("halves", fund, 0, 0, 40000);
    }

    private static void failedOnesBearNothing() {
        DefaultFund fund = new DefaultFund();
        fund.addMember(50, 50, 0);
        fund.addMember(0, 10, 0);
        fund.addMember(0, 10, 0);
        fund.setGain(0, 1000);
        fund.fail(0, 1);
        fund.bid(2, 0, -90);
        fund.close();
        Check.same("what it does not need is gone too", fund.margin(0) + fund.share(0) + fund.gain(0), 0);
        shares("others bear nothing", fund, 0, 10, 10);
        fund.fail(1, 1);
        Check.same("own share, one share, one assessment", fund.close(), 1000 - 10 - 10 - 10);
        assessed("the failed are not assessed", fund, 0, 0, 10);
    }

    // "1. the margin of the failed member, 2. its share": whichever of them it has
    private static void ownFundsOfTheFailed() {
        int[][] due = {{0, 0, 99}, {1, 0, 98}, {0, 1, 98}, {99, 0, 0}, {0, 99, 0}, {98, 0, 1}, {49, 49, 1},
            {49, 50, 0}, {50, 50, 0}, {1000000, 0, 0}, {0, 1000000, 0}, {1000000, 1000000, 0}};
        for (int[] row : due) {
            DefaultFund fund = new DefaultFund();
            fund.addMember(row[0], row[1], 0);
            fund.addMember(500, 0, 0);
            fund.setCapital(99);
            fund.fail(0, 1);
            fund.bid(1, 0, -99);
            fund.close();
            Check.same("the house pays behind " + row[0] + " and " + row[1], fund.capital(), 99 - row[2]);
            Check.same("nothing is left of the margin", fund.margin(0), 0);
            Check.same("nor of the share", fund.share(0), 0);
            Check.same("no margin of another", fund.margin(1), 500);
        }
    }

    // "4. the shares of active members": those under notice bear with the whole share
    private static void sharesOfThoseUnderNotice() {
        DefaultFund fund = Funds.withShares(10, 10, 0);
        fund.giveNotice(0);
        fund.fail(2, 1);
        fund.bid(0, 0, -15);
        fund.close();
        // 10 of member 1, that is junior, and 5 of member 0, that leaves with the rest.
        shares("one under notice bid", fund, 0, 0);
        assessed("no share is spared", fund, 0, 0);
        fund = Funds.withShares(10, 10, 0);
        fund.giveNotice(0);
        fund.fail(2, 1);
        fund.bid(1, 0, -15);
        fund.close();
        shares("one under notice is junior", fund, 0, 5);
        fund = Funds.withShares(10, 10, 0);
        fund.giveNotice(0);
        lossOf(14, fund, 2);
        shares("parted with one under notice", fund, 0, 3);
    }

    // "each bounded by that number": a new bound in each failure, of all assessments no bound
    private static void capOfEachFailure() {
        DefaultFund fund = new DefaultFund();
        fund.addMember(1, 0, 0);
        fund.setTested(0, 10);
        for (int failure = 1; failure <= 9; failure++) {
            fund.size();
            Check.same("sized to 10 again", fund.share(0), 10);
            lossOf(21, fund, 0);
            Check.same("10 more", fund.assessed(0), 10 * failure);
            Check.same("and no more", fund.uncovered(), failure);
        }
    }

    // "for one that has given notice, by half of it, rounded down"
    private static void halfOfSmallShares() {
        for (int share = 0; share <= 7; share++) {
            DefaultFund fund = Funds.withShares(share, 0);
            fund.giveNotice(0);
            lossOf(2 * share, fund, 1);
            Check.same("half of " + share, fund.assessed(0), share / 2);
            Check.same("beyond it", fund.uncovered(), share - share / 2);
            fund = Funds.withShares(share, 0);
            lossOf(2 * share, fund, 1);
            Check.same("the whole of " + share, fund.assessed(0), share);
            Check.same("nothing beyond it", fund.uncovered(), 0);
        }
    }

    // "6. assessments of active members": of juniors and others at once
    private static void assessedWhateverTheRank() {
        for (int bidder = 0; bidder < 3; bidder++) {
            DefaultFund fund = Funds.withShares(6, 3, 3, 0);
            fund.giveNotice(1);
            fund.fail(3, 1);
            fund.bid(bidder, 0, -(12 + 4));
            fund.close();
            Check.same("only the bidder is not junior", fund.isJunior(bidder), false);
            assessed("bidder " + bidder, fund, 2, 1, 1, 0);
        }
    }

    // "parted by what their shares were when the member failed"
    private static void sharesWhenTheMemberFailed() {
        DefaultFund fund = new DefaultFund();
        fund.addMember(1, 8, 0);
        fund.addMember(3, 8, 0);
        fund.setTested(0, 32);
        fund.size();
        // Sized: 8 and 24. The loss takes them, and 4 of the assessments by 8 and 24.
        lossOf(32 + 4, fund, 0);
        assessed("as they were sized", fund, 1, 3);
        // Nothing is left of the shares, so that nobody is assessed in the next failure.
        lossOf(5, fund, 0);
        assessed("by shares of 0", fund, 1, 3);
        Check.same("it is uncovered", fund.uncovered(), 5);
    }

    // "7. gains of active members above 0, parted by gains, each bounded by its gain"
    private static void gainsAboveNone() {
        int[][] due = {{0, 0, 5, 1, 3}, {1, 0, 4, 1, 3}, {2, 0, 3, 1, 3}, {3, 0, 3, 1, 2}, {8, 0, 0, 0, 1},
            {9, 0, 0, 0, 0}};
        for (int[] row : due) {
            DefaultFund fund = Funds.withShares(0, 0, 0, 0);
            fund.setGain(1, 5);
            fund.setGain(2, 1);
            fund.setGain(3, 3);
            lossOf(row[0], fund, 0);
            for (int i = 0; i < 4; i++) {
                Check.same("gain of " + i + " by " + row[0], fund.gain(i), row[i + 1]);
            }
            Check.same("all is borne", fund.uncovered(), 0);
        }
        DefaultFund fund = Funds.withShares(0, 0);
        fund.setGain(0, 1000000);
        fund.fail(1, 1);
        fund.setGain(0, 0);
        Check.same("a gain set to 0 in between", fund.close(), 1000);
    }

    // "the failed member has nothing any more, and those that have given notice have left"
    private static void losersThatHaveGone() {
        DefaultFund fund = Funds.withShares(40, 50, 60, 0);
        fund.setGain(0, 41);
        fund.setGain(1, 51);
        fund.giveNotice(1);
        fund.fail(0, 1);
        fund.bid(3, 0, 0);
        fund.close();
        Check.same("no loss", fund.loss(), 0);
        shares("but gone", fund, 0, 0, 60, 0);
        Check.same("with its gain", fund.gain(0), 0);
        Check.same("and with its gain", fund.gain(1), 0);
        Check.same("only those that stay bear", lossOf(121, fund, 3).uncovered(), 1);
        assessed("nobody that has gone", fund, 0, 0, 60, 0);
    }
}
