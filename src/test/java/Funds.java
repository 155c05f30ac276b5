/** Funds that several tests begin with, and all that can be asked of a fund. */
final class Funds {
    static final int LEAST = Integer.MIN_VALUE;
    static final int MOST = Integer.MAX_VALUE;

    private Funds() {
    }

    /** A fund with members that have these shares, no margin and room for 100 lots of clients. */
    static DefaultFund withShares(int... shares) {
        DefaultFund fund = new DefaultFund();
        for (int share : shares) {
            fund.addMember(0, share, 100);
        }
        return fund;
    }

    /** Fills all ten places. */
    static DefaultFund full() {
        return withShares(0, 1, 2, 3, 4, 5, 6, 7, 8, 9);
    }

    /** All answers of the calls that only ask, 5 and 8 for each member: two moments can be compared. */
    static String asked(DefaultFund fund) {
        StringBuilder text = new StringBuilder();
        int members = fund.members();
        text.append("members ").append(members)
                .append(" capital ").append(fund.capital())
                .append(" loss ").append(fund.loss())
                .append(" uncovered ").append(fund.uncovered())
                .append(" failing ").append(fund.failing());
        for (int i = 0; i < members; i++) {
            text.append(" [").append(i)
                    .append(" state ").append(fund.state(i))
                    .append(" margin ").append(fund.margin(i))
                    .append(" share ").append(fund.share(i))
                    .append(" gain ").append(fund.gain(i))
                    .append(" junior ").append(fund.isJunior(i))
                    .append(" assessed ").append(fund.assessed(i))
                    .append(" clients ").append(fund.clientLots(i))
                    .append(" won ").append(fund.won(i))
                    .append(']');
        }
        return text.toString();
    }

    /** Lets each lot of the auction be bid for by the member. */
    static void bidForAll(DefaultFund fund, int member, int lots, int price) {
        for (int lot = 0; lot < lots; lot++) {
            fund.bid(member, lot, price);
        }
    }
}
