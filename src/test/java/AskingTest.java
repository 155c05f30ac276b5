/** Promises 12 to 24: what can be asked for, before, while and behind a failure. */
public final class AskingTest {
    interface Asked {
        void of(DefaultFund fund, int member);
    }

    public static void main(String[] args) {
        members();
        wrongMembers();
        eachMemberHasItsOwn();
        statesOfMembers();
        whileAFailure();
        behindAFailure();
        askingChangesNothing();
        Check.end();
    }

    // Promise 12
    private static void members() {
        DefaultFund fund = new DefaultFund();
        for (int i = 0; i < 10; i++) {
            Check.same("members", fund.members(), i);
            fund.addMember(0, 0, 0);
        }
        Check.same("ten members", fund.members(), 10);
        fund.giveNotice(1);
        fund.fail(0, 1);
        Check.same("one fails", fund.members(), 10);
        fund.close();
        Check.same("one has left", fund.members(), 10);
    }

    // Promises 13 to 20
    private static void wrongMembers() {
        Asked[] calls = {
            (fund, m) -> fund.state(m), (fund, m) -> fund.margin(m), (fund, m) -> fund.share(m),
            (fund, m) -> fund.gain(m), (fund, m) -> fund.isJunior(m), (fund, m) -> fund.assessed(m),
            (fund, m) -> fund.clientLots(m), (fund, m) -> fund.won(m),
        };
        DefaultFund none = new DefaultFund();
        DefaultFund two = Funds.withShares(1, 2);
        DefaultFund ten = Funds.full();
        for (int i = 0; i < calls.length; i++) {
            Asked call = calls[i];
            Check.noSuch(i + ", no members", () -> call.of(none, 0));
            for (int member : new int[] {-1, 2, 9, 10, Funds.LEAST, Funds.MOST}) {
                Check.noSuch(i + ", two members", () -> call.of(two, member));
            }
            for (int member : new int[] {-1, 10, 11, Funds.LEAST, Funds.MOST}) {
                Check.noSuch(i + ", ten members", () -> call.of(ten, member));
            }
        }
    }

    private static void eachMemberHasItsOwn() {
        DefaultFund fund = new DefaultFund();
        for (int i = 0; i < 10; i++) {
            fund.addMember(100 + i, 200 + i, 10 + i);
            fund.setGain(i, 300 + i);
            fund.addClient(i, 1 + i);
        }
        for (int i = 0; i < 10; i++) {
            Check.same("state", fund.state(i), DefaultFund.GOES_ON);
            Check.same("margin", fund.margin(i), 100 + i);
            Check.same("share", fund.share(i), 200 + i);
            Check.same("gain", fund.gain(i), 300 + i);
            Check.same("junior", fund.isJunior(i), false);
            Check.same("assessed", fund.assessed(i), 0);
            Check.same("clients", fund.clientLots(i), 1 + i);
            Check.same("won", fund.won(i), 0);
        }
    }

    // Promise 13
    private static void statesOfMembers() {
        DefaultFund fund = Funds.withShares(0, 0, 0);
        fund.giveNotice(1);
        Check.same("goes on", fund.state(0), 0);
        Check.same("notice", fund.state(1), 1);
        fund.fail(0, 1);
        Check.same("failed", fund.state(0), 2);
        Check.same("still notice", fund.state(1), 1);
        fund.close();
        Check.same("still failed", fund.state(0), 2);
        Check.same("left", fund.state(1), 3);
        Check.same("still goes on", fund.state(2), 0);
    }

    // Promises 14 to 24
    private static DefaultFund aFailure() {
        DefaultFund fund = new DefaultFund();
        fund.addMember(40, 30, 20);
        fund.addMember(50, 60, 20);
        fund.addMember(60, 70, 3);
        fund.setCapital(80);
        fund.setGain(2, 7);
        fund.addClient(0, 2);
        fund.addClient(1, 4);
        fund.addClient(1, 3);
        fund.fail(1, 2);
        fund.bid(0, 0, -200);
        fund.bid(2, 1, -40);
        fund.bid(0, 1, -1);
        return fund;
    }

    private static void whileAFailure() {
        Check.same("while", Funds.asked(aFailure()), "members 3 capital 80 loss 0 uncovered 0 failing 1"
                + " [0 state 0 margin 40 share 30 gain 0 junior false assessed 0 clients 9 won 0]"
                + " [1 state 2 margin 50 share 60 gain 0 junior false assessed 0 clients 0 won 0]"
                + " [2 state 0 margin 60 share 70 gain 7 junior false assessed 0 clients 0 won 0]");
    }

    private static void behindAFailure() {
        DefaultFund fund = Funds.withShares(30, 60, 70);
        fund.setCapital(80);
        fund.setGain(2, 7);
        fund.fail(1, 2);
        fund.bid(0, 0, -200);
        fund.bid(2, 1, -140);
        Check.same("uncovered", fund.close(), 0);
        // 340: 60 and 80; then 100 of the shares, and 100 of the assessments.
        Check.same("behind", Funds.asked(fund), "members 3 capital 0 loss 340 uncovered 0 failing -1"
                + " [0 state 0 margin 0 share 0 gain 0 junior false assessed 30 clients 0 won 1]"
                + " [1 state 2 margin 0 share 0 gain 0 junior false assessed 0 clients 0 won 0]"
                + " [2 state 0 margin 0 share 0 gain 7 junior false assessed 70 clients 0 won 1]");
        fund.fail(0, 1);
        Check.same("the loss of the last", fund.loss(), 340);
        Check.same("failing", fund.failing(), 0);
        Check.same("without bids", fund.close(), 993);
        fund.fail(2, 2);
        Check.same("without anything", fund.close(), 2000);
        Check.same("in the end", Funds.asked(fund), "members 3 capital 0 loss 2000 uncovered 2993 failing -1"
                + " [0 state 2 margin 0 share 0 gain 0 junior false assessed 30 clients 0 won 1]"
                + " [1 state 2 margin 0 share 0 gain 0 junior false assessed 0 clients 0 won 0]"
                + " [2 state 2 margin 0 share 0 gain 0 junior true assessed 70 clients 0 won 1]");
    }

    private static void askingChangesNothing() {
        DefaultFund fund = aFailure();
        String first = Funds.asked(fund);
        for (int i = 0; i < 3; i++) {
            Check.same("asked again", Funds.asked(fund), first);
        }
        fund.close();
        first = Funds.asked(fund);
        Check.same("asked again, closed", Funds.asked(fund), first);
    }
}
