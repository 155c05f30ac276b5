/** Promises 1 to 8: a new object, and the calls under "members". */
public final class MembersTest {
    public static void main(String[] args) {
        newObject();
        addMember();
        addMemberWrong();
        addClient();
        addClientWrong();
        setGain();
        setTested();
        setCapital();
        giveNotice();
        giveNoticeWrong();
        sizeBySharesOfMargins();
        sizeByTwoGreatest();
        sizeOfActiveAlone();
        sizeAtTheEdges();
        sizeWhileAFailure();
        roomOfNoneAndOfOne();
        sizedOnlyWhenAsked();
        sharesBecomeTheirPartsIfMore();
        restOfSizing();
        twoGreatestOfMany();
        lastCallPromised();
        Check.end();
    }

    // Promise 1
    private static void newObject() {
        DefaultFund fund = new DefaultFund();
        Check.same("new", Funds.asked(fund), "members 0 capital 0 loss 0 uncovered 0 failing -1");
        fund.addMember(1, 2, 3);
        fund.setCapital(4);
        DefaultFund other = new DefaultFund();
        Check.same("another new one", Funds.asked(other), "members 0 capital 0 loss 0 uncovered 0 failing -1");
    }

    // Promise 2
    private static void addMember() {
        DefaultFund fund = new DefaultFund();
        Check.same("first", fund.addMember(0, 0, 0), 0);
        Check.same("second", fund.addMember(1000000, 1000000, 100), 1);
        Check.same("third", fund.addMember(12, 34, 56), 2);
        Check.same("all", Funds.asked(fund), "members 3 capital 0 loss 0 uncovered 0 failing -1"
                + " [0 state 0 margin 0 share 0 gain 0 junior false assessed 0 clients 0 won 0]"
                + " [1 state 0 margin 1000000 share 1000000 gain 0 junior false assessed 0 clients 0 won 0]"
                + " [2 state 0 margin 12 share 34 gain 0 junior false assessed 0 clients 0 won 0]");
        Check.same("gain at first", fund.setGain(2, 5), 0);
        Check.same("tested loss at first", fund.setTested(2, 5), 0);
        Check.same("its room", fund.addClient(2, 1), 55);
        for (int i = 3; i < 10; i++) {
            Check.same("further", fund.addMember(i, i, i), i);
        }
    }

    private static void addMemberWrong() {
        DefaultFund fund = new DefaultFund();
        int[][] wrong = {
            {-1, 0, 0}, {1000001, 0, 0}, {0, -1, 0}, {0, 1000001, 0}, {0, 0, -1}, {0, 0, 101},
            {Funds.LEAST, 0, 0}, {Funds.MOST, 0, 0}, {0, Funds.LEAST, 0}, {0, Funds.MOST, 0},
            {0, 0, Funds.LEAST}, {0, 0, Funds.MOST},
        };
        for (int[] w : wrong) {
            Check.badArgument("addMember out of range", () -> fund.addMember(w[0], w[1], w[2]));
        }
        Check.same("none was added", fund.members(), 0);
        DefaultFund full = Funds.full();
        String before = Funds.asked(full);
        Check.badState("an eleventh", () -> full.addMember(0, 0, 0));
        for (int[] w : wrong) {
            Check.badArgument("out of range comes first", () -> full.addMember(w[0], w[1], w[2]));
        }
        Check.same("nothing changed", Funds.asked(full), before);
        full.fail(9, 1);
        full.close();
        Check.badState("failed ones count too", () -> full.addMember(0, 0, 0));
    }

    // Promise 3
    private static void addClient() {
        DefaultFund fund = new DefaultFund();
        fund.addMember(0, 0, 30);
        fund.addMember(0, 0, 100);
        Check.same("least", fund.addClient(0, 1), 29);
        Check.same("most", fund.addClient(0, 20), 9);
        Check.badState("one too many", () -> fund.addClient(0, 10));
        Check.same("just enough", fund.addClient(0, 9), 0);
        Check.badState("full", () -> fund.addClient(0, 1));
        Check.same("lots", fund.clientLots(0), 30);
        Check.same("of the other", fund.clientLots(1), 0);
        for (int i = 0; i < 100; i++) {
            Check.same("clients of one lot", fund.addClient(1, 1), 99 - i);
        }
        Check.badState("a hundred are in", () -> fund.addClient(1, 1));
        DefaultFund noticed = Funds.withShares(0);
        noticed.giveNotice(0);
        Check.same("under notice", noticed.addClient(0, 3), 97);
    }

    private static void addClientWrong() {
        DefaultFund fund = new DefaultFund();
        Check.noSuch("no member at all", () -> fund.addClient(0, 1));
        fund.addMember(0, 0, 5);
        for (int member : new int[] {-1, 1, Funds.LEAST, Funds.MOST}) {
            Check.noSuch("no such member", () -> fund.addClient(member, 1));
            Check.noSuch("also with wrong lots", () -> fund.addClient(member, 0));
        }
        for (int lots : new int[] {0, 21, -1, Funds.LEAST, Funds.MOST}) {
            Check.badArgument("lots out of range", () -> fund.addClient(0, lots));
        }
        Check.badState("no room", () -> fund.addClient(0, 6));
        Check.same("nothing came", fund.clientLots(0), 0);
        fund.fail(0, 1);
        Check.badState("failed", () -> fund.addClient(0, 1));
        Check.badArgument("failed, and lots out of range", () -> fund.addClient(0, 21));
        Check.same("still nothing", fund.clientLots(0), 0);
        DefaultFund left = Funds.withShares(0, 0);
        left.giveNotice(1);
        left.fail(0, 1);
        left.close();
        Check.badState("left", () -> left.addClient(1, 1));
    }

    // Promise 4
    private static void setGain() {
        DefaultFund fund = Funds.withShares(0, 0, 0);
        Check.same("before the first", fund.setGain(0, 1000000), 0);
        Check.same("before the second", fund.setGain(0, 0), 1000000);
        Check.same("before the third", fund.setGain(0, 7), 0);
        Check.same("gain", fund.gain(0), 7);
        Check.same("of another", fund.gain(1), 0);
        for (int member : new int[] {-1, 3, Funds.LEAST, Funds.MOST}) {
            Check.noSuch("setGain, no such member", () -> fund.setGain(member, 0));
            Check.noSuch("setGain, also out of range", () -> fund.setGain(member, -1));
        }
        for (int gain : new int[] {-1, 1000001, Funds.LEAST, Funds.MOST}) {
            Check.badArgument("gain out of range", () -> fund.setGain(0, gain));
        }
        Check.same("gain stays", fund.gain(0), 7);
        fund.giveNotice(1);
        Check.same("under notice", fund.setGain(1, 8), 0);
        fund.fail(0, 1);
        Check.badState("failed", () -> fund.setGain(0, 1));
        Check.badArgument("failed and out of range", () -> fund.setGain(0, -1));
        Check.same("gain of the failing", fund.gain(0), 7);
        Check.same("while a failure is dealt with", fund.setGain(2, 9), 0);
        fund.close();
        Check.badState("left", () -> fund.setGain(1, 1));
    }

    // Promise 5
    private static void setTested() {
        DefaultFund fund = Funds.withShares(0, 0, 0);
        Check.same("before the first", fund.setTested(0, 1000000), 0);
        Check.same("before the second", fund.setTested(0, 0), 1000000);
        Check.same("before the third", fund.setTested(0, 7), 0);
        Check.same("of another", fund.setTested(1, 0), 0);
        for (int member : new int[] {-1, 3, Funds.LEAST, Funds.MOST}) {
            Check.noSuch("setTested, no such member", () -> fund.setTested(member, 0));
            Check.noSuch("setTested, also out of range", () -> fund.setTested(member, -1));
        }
        for (int loss : new int[] {-1, 1000001, Funds.LEAST, Funds.MOST}) {
            Check.badArgument("loss out of range", () -> fund.setTested(0, loss));
        }
        Check.same("stays", fund.setTested(0, 7), 7);
        fund.giveNotice(1);
        Check.same("under notice", fund.setTested(1, 8), 0);
        fund.fail(0, 1);
        Check.badState("failed", () -> fund.setTested(0, 1));
        Check.badArgument("failed and out of range", () -> fund.setTested(0, -1));
        Check.same("while a failure is dealt with", fund.setTested(2, 9), 0);
        fund.close();
        Check.badState("left", () -> fund.setTested(1, 1));
    }

    // Promise 6
    private static void setCapital() {
        DefaultFund fund = Funds.withShares(0);
        Check.same("before the first", fund.setCapital(1000000), 0);
        Check.same("before the second", fund.setCapital(0), 1000000);
        Check.same("before the third", fund.setCapital(5), 0);
        for (int capital : new int[] {-1, 1000001, Funds.LEAST, Funds.MOST}) {
            Check.badArgument("capital out of range", () -> fund.setCapital(capital));
        }
        Check.same("capital stays", fund.capital(), 5);
        fund.fail(0, 1);
        Check.same("while a failure is dealt with", fund.setCapital(999), 5);
        Check.same("what it then leaves", fund.close(), 1);
    }

    // Promise 7
    private static void giveNotice() {
        DefaultFund fund = Funds.withShares(5, 6);
        fund.setGain(1, 3);
        fund.addClient(1, 4);
        fund.giveNotice(1);
        Check.same("state", fund.state(1), DefaultFund.NOTICE);
        Check.same("of the other", fund.state(0), DefaultFund.GOES_ON);
        Check.same("it keeps its share", fund.share(1), 6);
        Check.same("it keeps its gain", fund.gain(1), 3);
        Check.same("it keeps its clients", fund.clientLots(1), 4);
    }

    private static void giveNoticeWrong() {
        DefaultFund fund = Funds.withShares(0, 0, 0, 0);
        for (int member : new int[] {-1, 4, Funds.LEAST, Funds.MOST}) {
            Check.noSuch("giveNotice, no such member", () -> fund.giveNotice(member));
        }
        fund.giveNotice(1);
        Check.badState("twice", () -> fund.giveNotice(1));
        fund.fail(0, 1);
        Check.badState("the failing one", () -> fund.giveNotice(0));
        Check.badState("while a failure is dealt with", () -> fund.giveNotice(2));
        Check.noSuch("no such member then", () -> fund.giveNotice(4));
        Check.same("it goes on", fund.state(2), DefaultFund.GOES_ON);
        fund.close();
        Check.badState("failed", () -> fund.giveNotice(0));
        Check.badState("left", () -> fund.giveNotice(1));
        fund.giveNotice(2);
        Check.same("behind the failure", fund.state(2), DefaultFund.NOTICE);
    }

    // Promise 8
    private static void sizeBySharesOfMargins() {
        DefaultFund fund = new DefaultFund();
        fund.addMember(3, 0, 0);
        fund.addMember(0, 4, 0);
        fund.addMember(3, 4, 0);
        fund.addMember(1, 0, 0);
        fund.setTested(1, 12);
        // 12 by 3, 0, 3, 1: 5, 0, 5, 1 rounded down; the rest of 1 goes to member 0.
        Check.same("growth", fund.size(), 6 + 1 + 1);
        Check.same("the rest's first coin", fund.share(0), 6);
        Check.same("without margin nothing", fund.share(1), 4);
        Check.same("a part above the share", fund.share(2), 5);
        Check.same("the least", fund.share(3), 1);
        fund.setTested(1, 13);
        // 13: 5, 0, 5, 1, and the rest of 2 to members 0 and 2, past the one without weight.
        Check.same("growth of one", fund.size(), 1);
        Check.same("grown", fund.share(2), 6);
        fund.setTested(1, 0);
        Check.same("no share shrinks", fund.size(), 0);
        Check.same("stays", fund.share(2), 6);
    }

    private static void sizeByTwoGreatest() {
        int[][] tested = {{500, 700, 100}, {700, 500, 100}, {100, 500, 700}, {700, 100, 500}, {600, 600, 600}};
        for (int[] losses : tested) {
            DefaultFund fund = new DefaultFund();
            for (int i = 0; i < 3; i++) {
                fund.addMember(i == 0 ? 1 : 0, 0, 0);
                fund.setTested(i, losses[i]);
            }
            Check.same("the two greatest", fund.size(), 1200);
            Check.same("all to the one with a margin", fund.share(0), 1200);
        }
        DefaultFund fund = new DefaultFund();
        fund.addMember(1, 0, 0);
        fund.setTested(0, 30);
        Check.same("one alone", fund.size(), 30);
        fund.addMember(1, 0, 0);
        fund.setTested(1, 10);
        Check.same("the lesser second", fund.size(), 20);
    }

    private static void sizeOfActiveAlone() {
        DefaultFund fund = new DefaultFund();
        for (int i = 0; i < 4; i++) {
            fund.addMember(10, 0, 0);
        }
        fund.setTested(0, 1000);
        fund.setTested(1, 500);
        fund.setTested(2, 30);
        fund.setTested(3, 10);
        fund.giveNotice(1);
        fund.fail(0, 1);
        fund.bid(1, 0, 0);
        fund.close();
        Check.same("neither failed nor left ones count", fund.size(), 40);
        Check.same("failed", fund.share(0), 0);
        Check.same("left", fund.share(1), 0);
        Check.same("goes on", fund.share(2), 20);
        fund.giveNotice(3);
        fund.setTested(3, 70);
        Check.same("under notice counts", fund.size(), 60);
        Check.same("under notice pays", fund.share(3), 50);
    }

    private static void sizeAtTheEdges() {
        DefaultFund none = new DefaultFund();
        Check.same("no members", none.size(), 0);
        DefaultFund noMargin = Funds.withShares(3, 4);
        noMargin.setTested(0, 1000000);
        Check.same("nobody has a margin", noMargin.size(), 0);
        Check.same("stays", noMargin.share(0), 3);
        DefaultFund great = new DefaultFund();
        for (int i = 0; i < 10; i++) {
            great.addMember(1000000, 0, 0);
            great.setTested(i, 1000000);
        }
        Check.same("ten great ones", great.size(), 2000000);
        Check.same("the first", great.share(0), 200000);
        Check.same("the last", great.share(9), 200000);
        DefaultFund uneven = new DefaultFund();
        uneven.addMember(1000000, 0, 0);
        uneven.addMember(600000, 0, 0);
        uneven.addMember(300001, 0, 0);
        uneven.setTested(0, 1000000);
        uneven.setTested(1, 999999);
        Check.same("three uneven ones", uneven.size(), 1999999);
        // Rounded down 1052630, 631578 and 315790; the rest of 1 goes to member 0.
        Check.same("the greatest", uneven.share(0), 1052631);
        Check.same("the middle", uneven.share(1), 631578);
        Check.same("the least of three", uneven.share(2), 315790);
        DefaultFund two = new DefaultFund();
        two.addMember(1000000, 1000000, 0);
        two.addMember(0, 0, 0);
        two.setTested(0, 1000000);
        two.setTested(1, 1000000);
        Check.same("above the range of addMember", two.size(), 1000000);
        Check.same("share above it", two.share(0), 2000000);
    }

    private static void sizeWhileAFailure() {
        DefaultFund fund = new DefaultFund();
        fund.addMember(1, 0, 0);
        fund.addMember(1, 0, 0);
        fund.setTested(1, 50);
        fund.fail(0, 1);
        Check.badState("a failure is dealt with", () -> fund.size());
        Check.same("nothing grew", fund.share(1), 0);
        fund.bid(1, 0, 0);
        fund.close();
        Check.same("behind it", fund.size(), 50);
    }

    // "room, 0 to 100: for how many lots of clients it has room"
    private static void roomOfNoneAndOfOne() {
        DefaultFund fund = new DefaultFund();
        fund.addMember(0, 0, 0);
        fund.addMember(0, 0, 1);
        fund.addMember(0, 0, 99);
        fund.addMember(0, 0, 100);
        Check.badState("no room at all", () -> fund.addClient(0, 1));
        Check.badState("room for one, not for two", () -> fund.addClient(1, 2));
        Check.same("room for one", fund.addClient(1, 1), 0);
        Check.badState("and no more", () -> fund.addClient(1, 1));
        for (int member = 2; member < 4; member++) {
            for (int i = 0; i < 4; i++) {
                fund.addClient(member, 20);
            }
        }
        Check.badState("room for 99", () -> fund.addClient(2, 20));
        Check.same("19 fit", fund.addClient(2, 19), 0);
        Check.same("room for 100", fund.addClient(3, 20), 0);
        Check.same("all its lots", fund.clientLots(3), 100);
    }

    // "The fund is sized when that is asked for"
    private static void sizedOnlyWhenAsked() {
        DefaultFund fund = new DefaultFund();
        for (int i = 0; i < 5; i++) {
            fund.addMember(10, 1, 20);
            fund.setTested(i, 100 + i);
        }
        fund.setCapital(7);
        fund.setGain(1, 7);
        fund.addClient(0, 5);
        fund.giveNotice(4);
        sharesAre("nobody asked", fund, 1, 1, 1, 1, 1);
        fund.fail(0, 1);
        fund.bid(1, 0, 0);
        sharesAre("a failure", fund, 1, 1, 1, 1, 1);
        fund.close();
        sharesAre("behind the failure", fund, 0, 1, 1, 1, 0);
        Check.same("asked for", fund.size(), 102 + 103 - 3);
        // 205 by three equal margins: 68 each, and the rest of 1 to member 1.
        sharesAre("sized", fund, 0, 69, 68, 68, 0);
    }

    private static void sharesAre(String what, DefaultFund fund, int... due) {
        for (int i = 0; i < due.length; i++) {
            Check.same(what + ", share of " + i, fund.share(i), due[i]);
        }
    }

    // "the share of each becomes its part, if that is more"
    private static void sharesBecomeTheirPartsIfMore() {
        for (int tested = 4; tested <= 6; tested++) {
            DefaultFund fund = new DefaultFund();
            fund.addMember(1, 5, 0);
            fund.setTested(0, tested);
            Check.same("a part of " + tested + " beside 5", fund.size(), tested > 5 ? 1 : 0);
            Check.same("the share by " + tested, fund.share(0), Math.max(5, tested));
        }
        DefaultFund fund = new DefaultFund();
        fund.addMember(10, 100, 0);
        fund.addMember(10, 0, 0);
        fund.setTested(0, 100);
        // What the first has above its part of 50 is not set against the second's.
        Check.same("each by itself", fund.size(), 50);
        sharesAre("each by itself", fund, 100, 50);
    }

    // "then the rest, one coin each, to those with a weight above 0, by rising numbers"
    private static void restOfSizing() {
        DefaultFund fund = new DefaultFund();
        fund.addMember(0, 0, 0);
        fund.addMember(1, 0, 0);
        fund.addMember(1000000, 0, 0);
        fund.setTested(0, 1);
        Check.same("one coin", fund.size(), 1);
        sharesAre("to the first weight above 0", fund, 0, 1, 0);
        fund.setTested(1, 2);
        Check.same("three coins", fund.size(), 2);
        // 3 by 1 and 1000000: 0 and 2, and the rest of 1 to member 1.
        sharesAre("rounded down", fund, 0, 1, 2);
        DefaultFund ten = new DefaultFund();
        for (int i = 0; i < 10; i++) {
            ten.addMember(1, 0, 0);
        }
        ten.setTested(3, 19);
        Check.same("nineteen coins", ten.size(), 19);
        sharesAre("one each, and to all but the last", ten, 2, 2, 2, 2, 2, 2, 2, 2, 2, 1);
    }

    // "what is needed is the sum of the two greatest tested losses"
    private static void twoGreatestOfMany() {
        for (int first = 0; first < 10; first++) {
            for (int second = 0; second < 10; second++) {
                DefaultFund fund = new DefaultFund();
                for (int i = 0; i < 10; i++) {
                    fund.addMember(1, 0, 0);
                    fund.setTested(i, i == first ? 900 : i == second ? 800 : 799);
                }
                int due = first == second ? 900 + 799 : 900 + 800;
                Check.same("greatest " + first + ", then " + second, fund.size(), due);
            }
        }
        DefaultFund fund = new DefaultFund();
        for (int i = 0; i < 3; i++) {
            fund.addMember(1, 0, 0);
            fund.setTested(i, 50);
        }
        fund.setTested(0, 0);
        fund.setTested(1, 0);
        Check.same("the second greatest is 0", fund.size(), 50);
        fund.setTested(2, 0);
        Check.same("nothing is needed", fund.size(), 0);
    }

    // "An object is used for at most 512 calls after it has been made"
    private static void lastCallPromised() {
        DefaultFund fund = new DefaultFund();
        for (int call = 1; call <= 510; call++) {
            fund.setCapital(call);
        }
        Check.same("call 511", fund.addMember(1, 2, 3), 0);
        Check.same("call 512", fund.setCapital(5), 510);
        DefaultFund failing = Funds.withShares(4, 5);
        for (int call = 3; call <= 510; call++) {
            failing.setGain(1, call);
        }
        Check.same("call 511", failing.fail(0, 1), 1);
        // 4 and 5 of shares, 5 assessed, 510 of the gain.
        Check.same("call 512", failing.close(), 1000 - 4 - 5 - 5 - 510);
    }
}
