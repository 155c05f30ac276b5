/**
 * "If several apply, the one that it lists first is thrown. A call that throws changes nothing": each
 * refused call is made on a fund of its own, which behind it must answer like one that never met it.
 */
public final class RefusedTest {
    interface Act {
        void on(DefaultFund fund);
    }

    interface Answered {
        int by(DefaultFund fund);
    }

    private static final Class<IndexOutOfBoundsException> NO_SUCH = IndexOutOfBoundsException.class;
    private static final Class<IllegalArgumentException> BAD_ARGUMENT = IllegalArgumentException.class;
    private static final Class<IllegalStateException> BAD_STATE = IllegalStateException.class;
    private static final int[] NOBODY = {-1, 4, 9, 10, Funds.LEAST, Funds.MOST};
    private static final int[] NO_LOTS = {0, 21, -1, Funds.LEAST, Funds.MOST};
    private static final int[] NO_COINS = {-1, 1000001, Funds.LEAST, Funds.MOST};
    private static final int[] NO_PRICES = {-1001, 1001, Funds.LEAST, Funds.MOST};

    public static void main(String[] args) {
        addMember();
        addClient();
        setGain();
        setTested();
        setCapital();
        giveNotice();
        size();
        fail();
        bid();
        close();
        asking();
        Check.end();
    }

    // ---- the funds that the calls are made on

    private static void empty(DefaultFund fund) {
        Check.same("nobody is there", fund.members(), 0);
    }

    /** Members 0 to 2 go on, member 3 has given notice. */
    private static void quiet(DefaultFund fund) {
        fund.addMember(30, 100, 20);
        fund.addMember(40, 200, 9);
        fund.addMember(50, 300, 4);
        fund.addMember(60, 400, 12);
        fund.setCapital(250);
        for (int i = 0; i < 4; i++) {
            fund.setGain(i, 11 + i);
            fund.setTested(i, 2000 + 100 * i);
        }
        fund.addClient(0, 4);
        fund.addClient(0, 3);
        fund.addClient(1, 2);
        fund.addClient(2, 1);
        fund.giveNotice(3);
    }

    /** Member 0 fails, and its clients move to member 1; three lots, each with a bid. */
    private static void failing(DefaultFund fund) {
        quiet(fund);
        Check.same("lots of the failing one", fund.fail(0, 3), 3);
        fund.bid(1, 0, -600);
        fund.bid(3, 1, -990);
        fund.bid(2, 2, -980);
    }

    /** Member 4 came while the failure was dealt with. */
    private static void failingAndOneMore(DefaultFund fund) {
        failing(fund);
        fund.addMember(70, 500, 3);
    }

    /** Member 0 has failed, member 3 has left, members 1 and 2 go on. */
    private static void behind(DefaultFund fund) {
        failing(fund);
        fund.close();
    }

    private static void full(DefaultFund fund) {
        for (int i = 0; i < 10; i++) {
            fund.addMember(100 + i, 200 + i, 10 + i);
        }
    }

    // ---- how a refused call is looked at

    private static void refused(String what, Class<? extends RuntimeException> due, Act before, Act call) {
        for (boolean bidsCome : new boolean[] {false, true}) {
            DefaultFund disturbed = new DefaultFund();
            before.on(disturbed);
            Check.thrown(what, due, () -> call.on(disturbed));
            DefaultFund quietOne = new DefaultFund();
            before.on(quietOne);
            Check.same(what + ", and changes something: the rest", rest(disturbed, bidsCome), rest(quietOne, bidsCome));
        }
    }

    /** What is seen from here on, with calls that bring up bids, tested losses, rooms and clients' order. */
    private static String rest(DefaultFund fund, boolean bidsCome) {
        StringBuilder text = new StringBuilder(Funds.asked(fund));
        int members = fund.members();
        if (bidsCome) {
            bidForFour(text, fund, members);
        }
        told(text, fund, f -> f.close());
        told(text, fund, f -> f.addMember(70, 500, 30));
        told(text, fund, f -> f.size());
        for (int i = 0; i <= members; i++) {
            int member = i;
            told(text, fund, f -> f.setTested(member, 0));
            told(text, fund, f -> f.addClient(member, 1));
        }
        text.append(Funds.asked(fund));
        for (int i = 0; i <= members; i++) {
            int member = i;
            told(text, fund, f -> f.fail(member, 1));
            told(text, fund, f -> f.close());
        }
        return text.append(" in the end ").append(Funds.asked(fund)).toString();
    }

    private static void bidForFour(StringBuilder text, DefaultFund fund, int members) {
        for (int i = 0; i < members; i++) {
            for (int lot = 0; lot < 4; lot++) {
                int member = i;
                int of = lot;
                told(text, fund, f -> {
                    f.bid(member, of, -900 + 10 * member);
                    return 0;
                });
            }
        }
    }

    private static void told(StringBuilder text, DefaultFund fund, Answered call) {
        text.append(' ');
        try {
            text.append(call.by(fund));
        } catch (RuntimeException e) {
            text.append(e.getClass().getSimpleName());
        }
    }

    // ---- the calls

    private static void addMember() {
        int[][] wrong = {
            {-1, 0, 0}, {1000001, 0, 0}, {0, -1, 0}, {0, 1000001, 0}, {0, 0, -1}, {0, 0, 101},
            {Funds.LEAST, 0, 0}, {Funds.MOST, 0, 0}, {0, Funds.LEAST, 0}, {0, Funds.MOST, 0},
            {0, 0, Funds.LEAST}, {0, 0, Funds.MOST}, {-1, -1, -1},
        };
        for (int[] w : wrong) {
            Act call = fund -> fund.addMember(w[0], w[1], w[2]);
            refused("addMember out of range", BAD_ARGUMENT, RefusedTest::empty, call);
            refused("addMember out of range, some there", BAD_ARGUMENT, RefusedTest::quiet, call);
            refused("addMember out of range, a failure", BAD_ARGUMENT, RefusedTest::failing, call);
            refused("addMember out of range, ten there", BAD_ARGUMENT, RefusedTest::full, call);
        }
        refused("an eleventh", BAD_STATE, RefusedTest::full, fund -> fund.addMember(1, 2, 3));
    }

    private static void addClient() {
        refused("addClient, nobody there", NO_SUCH, RefusedTest::empty, fund -> fund.addClient(0, 1));
        for (int member : NOBODY) {
            refused("addClient, no such member", NO_SUCH, RefusedTest::quiet, fund -> fund.addClient(member, 1));
            refused("addClient, no such member, no lots", NO_SUCH, RefusedTest::quiet,
                    fund -> fund.addClient(member, 0));
        }
        for (int lots : NO_LOTS) {
            refused("addClient, lots", BAD_ARGUMENT, RefusedTest::quiet, fund -> fund.addClient(1, lots));
            refused("addClient, lots and failing", BAD_ARGUMENT, RefusedTest::failing, fund -> fund.addClient(0, lots));
            refused("addClient, lots and left", BAD_ARGUMENT, RefusedTest::behind, fund -> fund.addClient(3, lots));
            refused("addClient, lots and no room", BAD_ARGUMENT, RefusedTest::failing,
                    fund -> fund.addClient(1, lots));
        }
        refused("addClient, one lot too many", BAD_STATE, RefusedTest::quiet, fund -> fund.addClient(2, 4));
        refused("addClient, far too many", BAD_STATE, RefusedTest::quiet, fund -> fund.addClient(2, 20));
        refused("addClient, filled by moved ones", BAD_STATE, RefusedTest::failing, fund -> fund.addClient(1, 1));
        refused("addClient, failing", BAD_STATE, RefusedTest::failing, fund -> fund.addClient(0, 1));
        refused("addClient, failed", BAD_STATE, RefusedTest::behind, fund -> fund.addClient(0, 1));
        refused("addClient, left", BAD_STATE, RefusedTest::behind, fund -> fund.addClient(3, 1));
    }

    private static void setGain() {
        refused("setGain, nobody there", NO_SUCH, RefusedTest::empty, fund -> fund.setGain(0, 1));
        for (int member : NOBODY) {
            refused("setGain, no such member", NO_SUCH, RefusedTest::quiet, fund -> fund.setGain(member, 1));
            refused("setGain, no such member, no coins", NO_SUCH, RefusedTest::quiet,
                    fund -> fund.setGain(member, -1));
        }
        for (int gain : NO_COINS) {
            refused("setGain, gain", BAD_ARGUMENT, RefusedTest::quiet, fund -> fund.setGain(1, gain));
            refused("setGain, gain and failing", BAD_ARGUMENT, RefusedTest::failing, fund -> fund.setGain(0, gain));
            refused("setGain, gain and left", BAD_ARGUMENT, RefusedTest::behind, fund -> fund.setGain(3, gain));
        }
        refused("setGain, failing", BAD_STATE, RefusedTest::failing, fund -> fund.setGain(0, 1));
        refused("setGain, failed", BAD_STATE, RefusedTest::behind, fund -> fund.setGain(0, 1));
        refused("setGain, left", BAD_STATE, RefusedTest::behind, fund -> fund.setGain(3, 1));
    }

    private static void setTested() {
        refused("setTested, nobody there", NO_SUCH, RefusedTest::empty, fund -> fund.setTested(0, 1));
        for (int member : NOBODY) {
            refused("setTested, no such member", NO_SUCH, RefusedTest::quiet, fund -> fund.setTested(member, 1));
            refused("setTested, no such member, no coins", NO_SUCH, RefusedTest::quiet,
                    fund -> fund.setTested(member, -1));
        }
        for (int loss : NO_COINS) {
            refused("setTested, loss", BAD_ARGUMENT, RefusedTest::quiet, fund -> fund.setTested(1, loss));
            refused("setTested, loss and failing", BAD_ARGUMENT, RefusedTest::failing,
                    fund -> fund.setTested(0, loss));
            refused("setTested, loss and left", BAD_ARGUMENT, RefusedTest::behind, fund -> fund.setTested(3, loss));
        }
        refused("setTested, failing", BAD_STATE, RefusedTest::failing, fund -> fund.setTested(0, 1));
        refused("setTested, failed", BAD_STATE, RefusedTest::behind, fund -> fund.setTested(0, 1));
        refused("setTested, left", BAD_STATE, RefusedTest::behind, fund -> fund.setTested(3, 1));
    }

    private static void setCapital() {
        for (int capital : NO_COINS) {
            refused("setCapital", BAD_ARGUMENT, RefusedTest::empty, fund -> fund.setCapital(capital));
            refused("setCapital, some there", BAD_ARGUMENT, RefusedTest::quiet, fund -> fund.setCapital(capital));
            refused("setCapital, a failure", BAD_ARGUMENT, RefusedTest::failing, fund -> fund.setCapital(capital));
        }
    }

    private static void giveNotice() {
        refused("giveNotice, nobody there", NO_SUCH, RefusedTest::empty, fund -> fund.giveNotice(0));
        for (int member : NOBODY) {
            refused("giveNotice, no such member", NO_SUCH, RefusedTest::quiet, fund -> fund.giveNotice(member));
            refused("giveNotice, no such member, a failure", NO_SUCH, RefusedTest::failing,
                    fund -> fund.giveNotice(member));
        }
        refused("giveNotice twice", BAD_STATE, RefusedTest::quiet, fund -> fund.giveNotice(3));
        for (int member = 0; member < 4; member++) {
            int m = member;
            refused("giveNotice, a failure", BAD_STATE, RefusedTest::failing, fund -> fund.giveNotice(m));
        }
        refused("giveNotice, failed", BAD_STATE, RefusedTest::behind, fund -> fund.giveNotice(0));
        refused("giveNotice, left", BAD_STATE, RefusedTest::behind, fund -> fund.giveNotice(3));
    }

    private static void size() {
        refused("size, a failure", BAD_STATE, RefusedTest::failing, fund -> fund.size());
    }

    private static void fail() {
        refused("fail, nobody there", NO_SUCH, RefusedTest::empty, fund -> fund.fail(0, 1));
        for (int member : NOBODY) {
            refused("fail, no such member", NO_SUCH, RefusedTest::quiet, fund -> fund.fail(member, 1));
            refused("fail, no such member, no lots", NO_SUCH, RefusedTest::quiet, fund -> fund.fail(member, 0));
            refused("fail, no such member, a failure", NO_SUCH, RefusedTest::failing, fund -> fund.fail(member, 1));
        }
        for (int lots : NO_LOTS) {
            refused("fail, lots", BAD_ARGUMENT, RefusedTest::quiet, fund -> fund.fail(0, lots));
            refused("fail, lots and a failure", BAD_ARGUMENT, RefusedTest::failing, fund -> fund.fail(1, lots));
            refused("fail, lots and failed", BAD_ARGUMENT, RefusedTest::behind, fund -> fund.fail(0, lots));
        }
        for (int member = 0; member < 4; member++) {
            int m = member;
            refused("fail, a failure", BAD_STATE, RefusedTest::failing, fund -> fund.fail(m, 1));
        }
        refused("fail, a failure and one more", BAD_STATE, RefusedTest::failingAndOneMore, fund -> fund.fail(4, 1));
        refused("fail, failing already", BAD_STATE, RefusedTest::failingAndOneMore, fund -> fund.fail(0, 1));
        refused("fail, failed", BAD_STATE, RefusedTest::behind, fund -> fund.fail(0, 1));
        refused("fail, left", BAD_STATE, RefusedTest::behind, fund -> fund.fail(3, 1));
    }

    private static void bid() {
        refused("bid, nobody there", NO_SUCH, RefusedTest::empty, fund -> fund.bid(0, 0, 0));
        for (int member : NOBODY) {
            refused("bid, no such member", NO_SUCH, RefusedTest::failing, fund -> fund.bid(member, 0, 0));
            refused("bid, no such member, no price", NO_SUCH, RefusedTest::failing,
                    fund -> fund.bid(member, 0, 1001));
        }
        for (int lot : new int[] {-1, 3, 4, 20, 119, 120, Funds.LEAST, Funds.MOST}) {
            refused("bid, no such lot", NO_SUCH, RefusedTest::failing, fund -> fund.bid(1, lot, 0));
            refused("bid, no such lot, no price", NO_SUCH, RefusedTest::failing, fund -> fund.bid(1, lot, 1001));
            refused("bid, no such lot, failing", NO_SUCH, RefusedTest::failing, fund -> fund.bid(0, lot, 0));
        }
        for (int member = 0; member < 4; member++) {
            int m = member;
            refused("bid, no failure yet", NO_SUCH, RefusedTest::quiet, fund -> fund.bid(m, 0, 0));
            refused("bid, no failure yet, no price", NO_SUCH, RefusedTest::quiet, fund -> fund.bid(m, 0, -1001));
            refused("bid, no failure any more", NO_SUCH, RefusedTest::behind, fund -> fund.bid(m, 0, 0));
            refused("bid, none any more, no price", NO_SUCH, RefusedTest::behind, fund -> fund.bid(m, 0, 1001));
        }
        for (int price : NO_PRICES) {
            refused("bid, price", BAD_ARGUMENT, RefusedTest::failing, fund -> fund.bid(1, 1, price));
            refused("bid, price and failing", BAD_ARGUMENT, RefusedTest::failing, fund -> fund.bid(0, 1, price));
            refused("bid, price and twice", BAD_ARGUMENT, RefusedTest::failing, fund -> fund.bid(1, 0, price));
        }
        refused("bid, failing", BAD_STATE, RefusedTest::failing, fund -> fund.bid(0, 1, 0));
        for (int price : new int[] {-1000, -601, -600, -599, 1000}) {
            refused("bid twice", BAD_STATE, RefusedTest::failing, fund -> fund.bid(1, 0, price));
        }
        Act another = fund -> {
            behind(fund);
            fund.fail(1, 2);
        };
        refused("bid, failed before", BAD_STATE, another, fund -> fund.bid(0, 0, 0));
        refused("bid, left before", BAD_STATE, another, fund -> fund.bid(3, 0, 0));
    }

    private static void close() {
        refused("close, nobody there", BAD_STATE, RefusedTest::empty, fund -> fund.close());
        refused("close, no failure yet", BAD_STATE, RefusedTest::quiet, fund -> fund.close());
        refused("close, no failure any more", BAD_STATE, RefusedTest::behind, fund -> fund.close());
    }

    private static void asking() {
        for (Answered call : askingOf(0)) {
            refused("asked, nobody there", NO_SUCH, RefusedTest::empty, fund -> call.by(fund));
        }
        for (int member : NOBODY) {
            for (Answered call : askingOf(member)) {
                refused("asked of nobody", NO_SUCH, RefusedTest::quiet, fund -> call.by(fund));
                refused("asked of nobody, a failure", NO_SUCH, RefusedTest::failing, fund -> call.by(fund));
            }
        }
    }

    private static Answered[] askingOf(int member) {
        return new Answered[] {
            fund -> fund.state(member), fund -> fund.margin(member), fund -> fund.share(member),
            fund -> fund.gain(member), fund -> fund.isJunior(member) ? 1 : 0, fund -> fund.assessed(member),
            fund -> fund.clientLots(member), fund -> fund.won(member),
        };
    }
}
