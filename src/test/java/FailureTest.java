/** Promises 9 to 11 as far as clients, lots and ranks go: LossesTest has how the loss is eaten. */
public final class FailureTest {
    public static void main(String[] args) {
        fail();
        failWrong();
        clientsAreMovedInOrder();
        clientsMoveToTheLowestNumberWithRoom();
        clientsAreMovedOn();
        clientsNeedAnActiveHost();
        bid();
        bidWrong();
        bidsOfANewFailure();
        lotsAreAwarded();
        lossOfLots();
        fewerThanHalf();
        lowBids();
        ranksAreTakenAnew();
        ranksOfOthers();
        close();
        leaving();
        tenMembersFail();
        clientsComeInOrderHoweverTheyCame();
        clientsAddedInBetweenComeLast();
        clientsNeedRoomForAllTheirLots();
        clientsMovedBeforeTakeRoom();
        clientsOfThoseThatLeave();
        lastLotAndTheNext();
        oneBidOfEachForEachLot();
        pricesAtTheirBounds();
        equalBids();
        lossAtNone();
        halfOfManyLots();
        halfCountsClientsLots();
        belowTheGreatestOfTheLot();
        moreThanHalfOfItsOwnBids();
        ranksOfFirstMember();
        Check.end();
    }

    // Promise 9
    private static void fail() {
        DefaultFund fund = new DefaultFund();
        fund.addMember(5, 6, 7);
        fund.addMember(0, 0, 0);
        fund.setGain(0, 8);
        Check.same("the least book", fund.fail(0, 1), 1);
        Check.same("state", fund.state(0), DefaultFund.FAILED);
        Check.same("failing", fund.failing(), 0);
        Check.same("it has its margin till the end", fund.margin(0), 5);
        Check.same("and its share", fund.share(0), 6);
        Check.same("and its gain", fund.gain(0), 8);
        fund.close();
        Check.same("the greatest book", fund.fail(1, 20), 20);
        DefaultFund noticed = Funds.withShares(0);
        noticed.giveNotice(0);
        Check.same("one under notice fails", noticed.fail(0, 2), 2);
        Check.same("its state", noticed.state(0), DefaultFund.FAILED);
        noticed.close();
        Check.same("it has failed, not left", noticed.state(0), DefaultFund.FAILED);
    }

    private static void failWrong() {
        DefaultFund fund = Funds.withShares(0, 0, 0);
        for (int member : new int[] {-1, 3, Funds.LEAST, Funds.MOST}) {
            Check.noSuch("fail, no such member", () -> fund.fail(member, 1));
            Check.noSuch("fail, also out of range", () -> fund.fail(member, 0));
        }
        for (int lots : new int[] {0, 21, -1, Funds.LEAST, Funds.MOST}) {
            Check.badArgument("fail, lots out of range", () -> fund.fail(0, lots));
        }
        Check.same("nobody fails", fund.failing(), DefaultFund.NONE);
        fund.giveNotice(1);
        fund.fail(0, 1);
        String before = Funds.asked(fund);
        Check.badState("a second failure", () -> fund.fail(2, 1));
        Check.badState("the same again", () -> fund.fail(0, 1));
        Check.badArgument("out of range then", () -> fund.fail(2, 21));
        Check.noSuch("no such member then", () -> fund.fail(3, 1));
        Check.same("nothing changed", Funds.asked(fund), before);
        fund.close();
        Check.badState("failed", () -> fund.fail(0, 1));
        Check.badState("left", () -> fund.fail(1, 1));
    }

    private static void clientsAreMovedInOrder() {
        DefaultFund fund = new DefaultFund();
        fund.addMember(0, 0, 30);
        fund.addMember(0, 0, 10);
        // In order: 8 fits, 5 does not, 2 does; by falling or rising lots the answers are others.
        fund.addClient(0, 8);
        fund.addClient(0, 5);
        fund.addClient(0, 2);
        fund.addClient(0, 1);
        Check.same("book and closed clients", fund.fail(0, 3), 3 + 5 + 1);
        Check.same("moved", fund.clientLots(1), 10);
        Check.same("none is left behind", fund.clientLots(0), 0);
    }

    private static void clientsMoveToTheLowestNumberWithRoom() {
        DefaultFund fund = new DefaultFund();
        fund.addMember(0, 0, 3);
        fund.addMember(0, 0, 5);
        fund.addMember(0, 0, 100);
        fund.addMember(0, 0, 100);
        fund.addClient(2, 4);
        fund.addClient(2, 3);
        fund.addClient(2, 2);
        fund.addClient(2, 1);
        Check.same("all find a place", fund.fail(2, 1), 1);
        Check.same("room just enough", fund.clientLots(0), 3);
        Check.same("the next number", fund.clientLots(1), 5);
        Check.same("the last number", fund.clientLots(3), 2);
        DefaultFund parted = new DefaultFund();
        parted.addMember(0, 0, 20);
        parted.addMember(0, 0, 9);
        parted.addMember(0, 0, 9);
        parted.addClient(0, 10);
        Check.same("no client is parted", parted.fail(0, 1), 11);
        Check.same("nothing came", parted.clientLots(1), 0);
    }

    private static void clientsAreMovedOn() {
        DefaultFund fund = new DefaultFund();
        fund.addMember(0, 0, 20);
        fund.addMember(0, 0, 20);
        fund.addMember(0, 0, 6);
        fund.addClient(0, 4);
        fund.addClient(1, 3);
        fund.addClient(0, 2);
        Check.same("the first failure", fund.fail(0, 1), 1);
        Check.same("moved behind its own", fund.clientLots(1), 9);
        fund.addClient(1, 1);
        Check.same("added behind the moved", fund.clientLots(1), 10);
        fund.close();
        // Member 1 has 3, 4, 2, 1 in this order: 3 fits into 6, 4 not, 2 and 1 do.
        Check.same("the second failure", fund.fail(1, 1), 1 + 4);
        Check.same("what fits", fund.clientLots(2), 6);
        fund.close();
        Check.same("the third failure", fund.fail(2, 1), 1 + 6);
        Check.same("nobody is left", fund.clientLots(2), 0);
    }

    private static void clientsNeedAnActiveHost() {
        DefaultFund fund = new DefaultFund();
        for (int i = 0; i < 4; i++) {
            fund.addMember(0, 0, 100);
        }
        fund.giveNotice(1);
        fund.fail(0, 1);
        fund.close();
        fund.addClient(2, 20);
        fund.giveNotice(3);
        Check.same("to one under notice", fund.fail(2, 1), 1);
        Check.same("not to one failed", fund.clientLots(0), 0);
        Check.same("not to one that has left", fund.clientLots(1), 0);
        Check.same("its clients", fund.clientLots(3), 20);
        fund.close();
        Check.same("they leave with it", fund.clientLots(3), 0);
        DefaultFund alone = Funds.withShares(0);
        for (int i = 0; i < 100; i++) {
            alone.addClient(0, 1);
        }
        Check.same("the most lots of all", alone.fail(0, 20), 120);
        alone.addMember(0, 0, 0);
        Funds.bidForAll(alone, 1, 120, -1000);
        Check.noSuch("one lot more", () -> alone.bid(1, 120, 0));
        alone.close();
        Check.same("the greatest loss", alone.loss(), 120000);
        Check.same("all won", alone.won(1), 120);
    }

    // Promise 10
    private static void bid() {
        DefaultFund fund = Funds.withShares(0, 0, 0, 0);
        fund.giveNotice(3);
        fund.fail(1, 3);
        fund.bid(0, 0, -1000);
        fund.bid(0, 2, 1000);
        fund.bid(3, 0, -999);
        Check.same("secret till the end", fund.won(3), 0);
        fund.close();
        Check.same("won by the first", fund.won(0), 1);
        Check.same("won under notice", fund.won(3), 1);
        Check.same("the loss", fund.loss(), 999 + 1000 - 1000);
    }

    private static void bidWrong() {
        DefaultFund fund = Funds.withShares(0, 0, 0, 0);
        Check.noSuch("no failure", () -> fund.bid(1, 0, 0));
        Check.noSuch("no failure, and out of range", () -> fund.bid(1, 0, 1001));
        fund.giveNotice(3);
        fund.fail(0, 1);
        fund.close();
        Check.noSuch("no failure any more", () -> fund.bid(1, 0, 0));
        fund.fail(1, 3);
        for (int member : new int[] {-1, 4, Funds.LEAST, Funds.MOST}) {
            Check.noSuch("bid, no such member", () -> fund.bid(member, 0, 0));
            Check.noSuch("bid, also out of range", () -> fund.bid(member, 0, 1001));
        }
        for (int lot : new int[] {-1, 3, 20, 120, Funds.LEAST, Funds.MOST}) {
            Check.noSuch("no such lot", () -> fund.bid(2, lot, 0));
            Check.noSuch("no such lot, and out of range", () -> fund.bid(2, lot, -1001));
            Check.noSuch("no such lot, and not active", () -> fund.bid(0, lot, 0));
        }
        for (int price : new int[] {-1001, 1001, Funds.LEAST, Funds.MOST}) {
            Check.badArgument("price out of range", () -> fund.bid(2, 0, price));
            Check.badArgument("price out of range, and not active", () -> fund.bid(0, 0, price));
        }
        fund.bid(2, 0, -1000);
        Check.badState("twice at the same price", () -> fund.bid(2, 0, -1000));
        Check.badState("twice", () -> fund.bid(2, 0, 1000));
        Check.badArgument("twice, and out of range", () -> fund.bid(2, 0, 1001));
        Check.badState("failed before", () -> fund.bid(0, 0, 0));
        Check.badState("the failing one", () -> fund.bid(1, 0, 0));
        Check.badState("left", () -> fund.bid(3, 0, 0));
        fund.close();
        Check.same("the first bid stands", fund.loss(), 3000);
        Check.same("and wins", fund.won(2), 1);
    }

    private static void bidsOfANewFailure() {
        DefaultFund fund = Funds.withShares(0, 0, 0, 0);
        fund.fail(0, 4);
        Funds.bidForAll(fund, 1, 4, 50);
        Funds.bidForAll(fund, 3, 4, 40);
        fund.close();
        fund.fail(1, 5);
        fund.bid(2, 0, 10);
        fund.bid(3, 0, 9);
        fund.close();
        Check.same("old bids are gone", fund.loss(), 4000 - 10);
        Check.same("won of the new", fund.won(2), 1);
        Check.same("none of the old", fund.won(3), 0);
        Check.same("won of the old", fund.won(1), 4);
        Check.same("old bids give no rank", fund.isJunior(3), true);
    }

    // Promise 11
    private static void lotsAreAwarded() {
        DefaultFund fund = Funds.withShares(0, 0, 0, 0);
        fund.fail(1, 4);
        fund.bid(3, 0, 5);
        fund.bid(2, 0, 5);
        fund.bid(0, 0, 4);
        fund.bid(0, 1, -7);
        fund.bid(2, 1, -6);
        fund.bid(3, 2, -1000);
        fund.close();
        Check.same("equal bids, the lower number", fund.won(2), 2);
        Check.same("a single bid", fund.won(3), 1);
        Check.same("a lesser bid", fund.won(0), 0);
        Check.same("the failed one", fund.won(1), 0);
        Check.same("a lot without bids costs 1000", fund.loss(), -5 + 6 + 1000 + 1000);
        fund.fail(0, 1);
        fund.bid(2, 0, 0);
        fund.close();
        Check.same("in all auctions so far", fund.won(2), 3);
    }

    private static void lossOfLots() {
        DefaultFund fund = Funds.withShares(0, 0, 0, 0);
        fund.fail(0, 2);
        Check.same("no loss before the first", fund.loss(), 0);
        fund.bid(1, 0, 1000);
        Check.same("nothing is uncovered", fund.close(), 0);
        Check.same("just none", fund.loss(), 0);
        fund.fail(1, 2);
        fund.bid(2, 0, 999);
        Check.same("one coin", fund.close(), 1);
        Check.same("loss of one", fund.loss(), 1);
        fund.setGain(3, 10);
        fund.fail(2, 1);
        Check.same("the last stands till the next is closed", fund.loss(), 1);
        fund.bid(3, 0, 1000);
        Check.same("a gain of the auction", fund.close(), 0);
        Check.same("is no loss below 0", fund.loss(), 0);
        Check.same("and goes to nobody", fund.gain(3), 10);
        Check.same("nor to the house", fund.capital(), 0);
    }

    private static void fewerThanHalf() {
        for (int lots = 1; lots <= 7; lots++) {
            for (int bids = 0; bids <= lots; bids++) {
                DefaultFund fund = Funds.withShares(0, 0);
                fund.fail(0, lots);
                Funds.bidForAll(fund, 1, bids, 0);
                Check.same("not before the end", fund.isJunior(1), false);
                fund.close();
                Check.same(bids + " bids of " + lots, fund.isJunior(1), bids + bids < lots);
            }
        }
    }

    private static void lowBids() {
        for (int below = 99; below <= 101; below++) {
            for (int bids = 4; bids <= 8; bids++) {
                for (int low = 0; low <= bids; low++) {
                    DefaultFund fund = Funds.withShares(0, 0, 0);
                    fund.fail(0, 8);
                    Funds.bidForAll(fund, 1, 8, 30);
                    for (int lot = 0; lot < bids; lot++) {
                        fund.bid(2, lot, lot < low ? 30 - below : 30);
                    }
                    fund.close();
                    boolean due = below > 100 && low + low > bids;
                    Check.same(low + " of " + bids + " bids by " + below, fund.isJunior(2), due);
                    Check.same("the greatest bidder", fund.isJunior(1), false);
                }
            }
        }
    }

    private static void ranksAreTakenAnew() {
        DefaultFund fund = Funds.withShares(0, 0, 0, 0);
        fund.fail(0, 2);
        fund.bid(2, 0, 0);
        fund.close();
        Check.same("without a bid", fund.isJunior(1), true);
        Check.same("with half", fund.isJunior(2), false);
        fund.fail(3, 1);
        fund.bid(1, 0, 0);
        Check.same("till the next auction", fund.isJunior(1), true);
        fund.close();
        Check.same("rank is won back", fund.isJunior(1), false);
        Check.same("rank is lost", fund.isJunior(2), true);
    }

    private static void ranksOfOthers() {
        DefaultFund fund = Funds.withShares(0, 0, 0, 0);
        fund.giveNotice(1);
        fund.fail(0, 1);
        int late = fund.addMember(0, 0, 0);
        Check.same("one that comes in between", late, 4);
        fund.bid(3, 0, 0);
        fund.close();
        Check.same("under notice", fund.isJunior(1), true);
        Check.same("goes on", fund.isJunior(2), true);
        Check.same("the bidder", fund.isJunior(3), false);
        Check.same("the late one", fund.isJunior(4), true);
        Check.same("the failed one has no rank in it", fund.isJunior(0), false);
        fund.fail(2, 1);
        fund.close();
        Check.same("its rank stays when it fails", fund.isJunior(2), true);
        Check.same("left, stays", fund.isJunior(1), true);
        Check.same("failed before, stays", fund.isJunior(0), false);
    }

    private static void close() {
        DefaultFund fund = Funds.withShares(0, 0);
        Check.badState("no failure", () -> fund.close());
        fund.fail(0, 1);
        Check.same("uncovered", fund.close(), 1000);
        Check.same("failing", fund.failing(), DefaultFund.NONE);
        String before = Funds.asked(fund);
        Check.badState("closed already", () -> fund.close());
        Check.same("nothing changed", Funds.asked(fund), before);
        fund.fail(1, 2);
        Check.same("of this failure alone", fund.close(), 2000);
        Check.same("so far", fund.uncovered(), 3000);
    }

    private static void leaving() {
        DefaultFund fund = new DefaultFund();
        fund.addMember(1, 2, 50);
        fund.addMember(900000, 900000, 50);
        fund.addMember(5, 6, 50);
        fund.setGain(0, 9);
        fund.setGain(1, 11);
        fund.setGain(2, 12);
        fund.addClient(1, 13);
        fund.addClient(2, 14);
        fund.giveNotice(1);
        fund.fail(0, 1);
        fund.bid(1, 0, -3);
        fund.close();
        Check.same("all", Funds.asked(fund), "members 3 capital 0 loss 3 uncovered 0 failing -1"
                + " [0 state 2 margin 0 share 0 gain 0 junior false assessed 0 clients 0 won 0]"
                + " [1 state 3 margin 0 share 0 gain 0 junior false assessed 0 clients 0 won 1]"
                + " [2 state 0 margin 5 share 6 gain 12 junior true assessed 0 clients 14 won 0]");
        DefaultFund first = Funds.withShares(5, 0, 0);
        first.giveNotice(0);
        first.giveNotice(2);
        first.fail(1, 1);
        Check.same("under notice while it is dealt with", first.state(0), DefaultFund.NOTICE);
        first.bid(2, 0, 0);
        first.close();
        Check.same("the first leaves", first.state(0), DefaultFund.LEFT);
        Check.same("with its share", first.share(0), 0);
        Check.same("and the last", first.state(2), DefaultFund.LEFT);
    }

    private static void tenMembersFail() {
        DefaultFund fund = Funds.full();
        int shares = 45;
        for (int i = 0; i < 10; i++) {
            Check.same("fails", fund.fail(i, 20), 20);
            Check.same("failing", fund.failing(), i);
            fund.close();
            Check.same("loss", fund.loss(), 20000);
            Check.same("state", fund.state(i), DefaultFund.FAILED);
        }
        Check.same("shares and assessments of the first, nothing behind it", fund.uncovered(),
                10 * 20000 - shares - shares);
    }

    // "client by client, in the order in which they came to it, by being added or by being moved to it"
    private static void clientsComeInOrderHoweverTheyCame() {
        // Member 1 has its own 12, then 7 and 4 that were moved from member 0, then 2 added behind them;
        // from no other order would member 2 take just as many into each of these rooms.
        int[][] due = {{12, 13}, {19, 6}, {23, 2}, {25, 0}};
        for (int[] row : due) {
            DefaultFund fund = new DefaultFund();
            fund.addMember(0, 0, 25);
            fund.addMember(0, 0, 25);
            fund.addClient(0, 7);
            fund.addClient(1, 12);
            fund.addClient(0, 4);
            Check.same("all move", fund.fail(0, 1), 1);
            fund.close();
            fund.addClient(1, 2);
            Check.same("all four", fund.clientLots(1), 25);
            fund.addMember(0, 0, row[0]);
            Check.same("room for the first " + row[0], fund.fail(1, 1), 1 + row[1]);
            Check.same("moved", fund.clientLots(2), row[0]);
        }
        // 1, 3, 2, 4 in this order: by rising or falling lots other clients would fill the room of 5.
        int[] rooms = {1, 3, 4, 5};
        int[] fills = {1, 3, 4, 4};
        for (int i = 0; i < rooms.length; i++) {
            DefaultFund fund = new DefaultFund();
            fund.addMember(0, 0, 20);
            fund.addMember(0, 0, 20);
            fund.addClient(1, 1);
            fund.addClient(0, 3);
            fund.fail(0, 1);
            fund.close();
            fund.addClient(1, 2);
            fund.addClient(1, 4);
            fund.addMember(0, 0, rooms[i]);
            Check.same("those that fit into " + rooms[i], fund.fail(1, 1), 1 + 10 - fills[i]);
            Check.same("a fill of " + rooms[i], fund.clientLots(2), fills[i]);
        }
    }

    private static void clientsAddedInBetweenComeLast() {
        DefaultFund fund = new DefaultFund();
        fund.addMember(0, 0, 20);
        fund.addMember(0, 0, 20);
        fund.addClient(0, 4);
        fund.fail(0, 1);
        fund.addClient(1, 3);
        fund.close();
        fund.addMember(0, 0, 6);
        fund.fail(1, 1);
        Check.same("the moved one was first", fund.clientLots(2), 4);
        // Moved twice: member 2's own 1, then 6 from member 0 by way of member 1.
        fund = new DefaultFund();
        fund.addMember(0, 0, 20);
        fund.addMember(0, 0, 20);
        fund.addMember(0, 0, 20);
        fund.addClient(0, 6);
        fund.addClient(1, 2);
        fund.fail(0, 1);
        fund.close();
        fund.addClient(2, 1);
        fund.fail(1, 1);
        fund.close();
        fund.addMember(0, 0, 6);
        // 1 fits into 6, then 2, then not 6.
        Check.same("closed", fund.fail(2, 1), 1 + 6);
        Check.same("in the order of coming", fund.clientLots(3), 3);
    }

    // "to the active member with the lowest number that has room for all lots of the client"
    private static void clientsNeedRoomForAllTheirLots() {
        for (int room = 19; room <= 20; room++) {
            DefaultFund fund = new DefaultFund();
            fund.addMember(0, 0, room);
            fund.addMember(0, 0, 20);
            fund.addMember(0, 0, 20);
            fund.addClient(2, 20);
            Check.same("a place for 20", fund.fail(2, 1), 1);
            Check.same("the first, with room for " + room, fund.clientLots(0), room == 20 ? 20 : 0);
            Check.same("the next", fund.clientLots(1), room == 20 ? 0 : 20);
        }
        DefaultFund none = new DefaultFund();
        none.addMember(0, 0, 0);
        none.addMember(0, 0, 1);
        none.addClient(1, 1);
        Check.same("no room for one lot", none.fail(1, 1), 2);
        Check.same("it is closed", none.clientLots(0), 0);
        Check.same("and gone", none.clientLots(1), 0);
        none.close();
        Check.same("behind it too", none.clientLots(0) + none.clientLots(1), 0);
    }

    private static void clientsMovedBeforeTakeRoom() {
        DefaultFund fund = new DefaultFund();
        fund.addMember(0, 0, 10);
        fund.addMember(0, 0, 20);
        fund.addMember(0, 0, 9);
        fund.addClient(0, 3);
        for (int lots = 6; lots >= 2; lots--) {
            fund.addClient(1, lots);
        }
        // Room of 7 and 9: 6 to member 0, 5 and 4 to member 2, then 3 and 2 nowhere.
        Check.same("closed when all is full", fund.fail(1, 4), 4 + 3 + 2);
        Check.same("beside its own", fund.clientLots(0), 9);
        Check.same("filled", fund.clientLots(2), 9);
        Check.same("one lot of room is left", fund.addClient(0, 1), 0);
        Check.badState("none is left", () -> fund.addClient(2, 1));
    }

    // "those that have given notice have left, with their ... clients, so that they have none here"
    private static void clientsOfThoseThatLeave() {
        DefaultFund fund = new DefaultFund();
        fund.addMember(0, 0, 20);
        fund.addMember(0, 0, 20);
        fund.addMember(0, 0, 100);
        fund.addClient(0, 3);
        fund.addClient(1, 4);
        fund.giveNotice(1);
        Check.same("moved to one under notice", fund.fail(0, 1), 1);
        Check.same("till the end", fund.clientLots(1), 7);
        fund.close();
        Check.same("they leave with it", fund.clientLots(1), 0);
        Check.same("and move to nobody", fund.clientLots(2), 0);
        Check.same("nor are they auctioned", fund.fail(2, 1), 1);
    }

    // "lot: from 0"; "no such lot"
    private static void lastLotAndTheNext() {
        for (int lots = 20; lots >= 1; lots--) {
            DefaultFund fund = Funds.withShares(0, 0, 0);
            int last = lots - 1;
            fund.fail(0, lots);
            Check.noSuch("lot of " + lots, () -> fund.bid(1, last + 1, 0));
            Check.noSuch("lot below 0", () -> fund.bid(1, -1, 0));
            fund.bid(1, last, 1000);
            fund.close();
            Check.same("the last of " + lots, fund.won(1), 1);
        }
        DefaultFund fund = Funds.withShares(0, 0, 0, 0);
        fund.fail(0, 20);
        fund.bid(2, 19, 0);
        fund.bid(2, 1, 0);
        fund.close();
        fund.fail(1, 1);
        Check.noSuch("a lot of the auction before", () -> fund.bid(2, 1, 0));
        Check.noSuch("its last", () -> fund.bid(2, 19, 0));
        fund.bid(2, 0, 0);
        fund.close();
        fund.fail(2, 2);
        fund.bid(3, 1, 0);
        Check.noSuch("one more than two", () -> fund.bid(3, 2, 0));
        fund.close();
        Check.same("won in the greater again", fund.won(3), 1);
    }

    // "for each lot each active member can bid once"
    private static void oneBidOfEachForEachLot() {
        DefaultFund fund = Funds.full();
        fund.giveNotice(9);
        fund.fail(0, 3);
        for (int member = 1; member < 10; member++) {
            int m = member;
            for (int lot = 0; lot < 3; lot++) {
                int of = lot;
                fund.bid(m, of, m);
                Check.badState("a second bid of " + m, () -> fund.bid(m, of, m + 1));
            }
        }
        fund.close();
        Check.same("the greatest of nine", fund.won(9), 3);
        fund.fail(1, 3);
        fund.bid(2, 0, 1);
        Check.badState("once in each auction", () -> fund.bid(2, 0, 2));
        fund.close();
        Check.same("won by the new bid", fund.won(2), 1);
    }

    // "a price from -1000 to 1000 (below 0 it is paid for taking the lot)"
    private static void pricesAtTheirBounds() {
        int[] prices = {-1000, -999, -1, 0, 1, 999, 1000};
        for (int price : prices) {
            DefaultFund fund = Funds.withShares(0, 0);
            fund.fail(0, 2);
            fund.bid(1, 0, price);
            fund.close();
            Check.same("won at " + price, fund.won(1), 1);
            Check.same("loss at " + price, fund.loss(), 1000 - price);
            Check.same("nothing is paid to the house", fund.capital(), 0);
        }
        DefaultFund fund = Funds.withShares(0, 0, 0);
        fund.fail(0, 1);
        Check.badArgument("just below", () -> fund.bid(1, 0, -1001));
        Check.badArgument("just above", () -> fund.bid(1, 0, 1001));
        fund.bid(1, 0, -1000);
        fund.bid(2, 0, -999);
        fund.close();
        Check.same("-999 is above -1000", fund.won(2), 1);
    }

    // "each lot goes to the greatest bid, of several to the member with the lowest number"
    private static void equalBids() {
        int[][] orders = {{0, 2, 4}, {4, 2, 0}, {2, 0, 4}, {2, 4, 0}, {4, 0, 2}, {0, 4, 2}};
        for (int[] order : orders) {
            DefaultFund fund = Funds.withShares(0, 0, 0, 0, 0);
            fund.fail(1, 3);
            for (int member : order) {
                fund.bid(member, 0, -1000);
                fund.bid(member, 1, member == 0 ? 6 : 7);
                fund.bid(member, 2, member == 4 ? 8 : 7);
            }
            fund.close();
            Check.same("three equal ones", fund.won(0), 1);
            Check.same("two equal ones", fund.won(2), 1);
            Check.same("the greatest", fund.won(4), 1);
            Check.same("each lot once", fund.loss(), 1000 - 7 - 8);
        }
    }

    // "if it is below 0 it is 0"
    private static void lossAtNone() {
        int[][] due = {{-1, 1}, {0, 0}, {1, 0}, {1000, 0}};
        for (int[] row : due) {
            DefaultFund fund = Funds.withShares(0, 50);
            fund.fail(0, 2);
            fund.bid(1, 0, row[0]);
            fund.bid(1, 1, 0);
            Check.same("uncovered at " + row[0], fund.close(), 0);
            Check.same("loss at " + row[0], fund.loss(), row[1]);
            Check.same("share at " + row[0], fund.share(1), 50 - row[1]);
            Check.same("all uncovered", fund.uncovered(), 0);
        }
    }

    // "A member that bid for fewer than half of the lots"
    private static void halfOfManyLots() {
        for (int lots = 19; lots <= 20; lots++) {
            for (int bids = 9; bids <= 10; bids++) {
                DefaultFund fund = Funds.withShares(0, 0);
                fund.fail(0, lots);
                Funds.bidForAll(fund, 1, bids, -3);
                fund.close();
                Check.same(bids + " of " + lots, fund.isJunior(1), bids == 9);
            }
        }
        for (int bids = 59; bids <= 60; bids++) {
            DefaultFund fund = Funds.withShares(0);
            for (int i = 0; i < 5; i++) {
                fund.addClient(0, 20);
            }
            fund.addMember(0, 0, 0);
            Check.same("all lots", fund.fail(0, 20), 120);
            for (int lot = 120 - bids; lot < 120; lot++) {
                fund.bid(1, lot, -3);
            }
            fund.close();
            Check.same(bids + " of 120", fund.isJunior(1), bids == 59);
        }
    }

    // "their lots are added to the book": half is half of all lots that are auctioned
    private static void halfCountsClientsLots() {
        for (int bids = 1; bids <= 2; bids++) {
            DefaultFund fund = new DefaultFund();
            fund.addMember(0, 0, 3);
            fund.addMember(0, 0, 2);
            fund.addClient(0, 3);
            Check.same("a book of 1 and a client of 3", fund.fail(0, 1), 4);
            Funds.bidForAll(fund, 1, bids, 0);
            fund.close();
            Check.same(bids + " of 4", fund.isJunior(1), bids == 1);
            Check.same("the client's lots cost as well", fund.loss(), 1000 * (4 - bids));
        }
        DefaultFund fund = new DefaultFund();
        fund.addMember(0, 0, 3);
        fund.addMember(0, 0, 3);
        fund.addClient(0, 3);
        Check.same("a client that moves is not auctioned", fund.fail(0, 1), 1);
        fund.bid(1, 0, 0);
        fund.close();
        Check.same("one of one", fund.isJunior(1), false);
    }

    // "more than 100 below the greatest bid of the lot"
    private static void belowTheGreatestOfTheLot() {
        int[][] greatest = {{1000, 0, -899}, {-899, 1000, 0}, {-1, 50, 101}};
        for (int[] prices : greatest) {
            for (int below = 100; below <= 101; below++) {
                DefaultFund fund = Funds.withShares(0, 0, 0, 0);
                fund.fail(1, 3);
                for (int lot = 0; lot < 3; lot++) {
                    fund.bid(0, lot, prices[lot] - below);
                    fund.bid(2, lot, prices[lot]);
                    fund.bid(3, lot, Math.max(-1000, prices[lot] - 500));
                }
                fund.close();
                Check.same("by " + below + " in each lot", fund.isJunior(0), below == 101);
                Check.same("the greatest of each lot", fund.isJunior(2), false);
            }
        }
        DefaultFund fund = Funds.withShares(0, 0, 0);
        fund.fail(0, 1);
        fund.bid(1, 0, -1000);
        fund.bid(2, 0, 1000);
        fund.close();
        Check.same("the widest", fund.isJunior(1), true);
        Check.same("its winner", fund.isJunior(2), false);
        fund = Funds.withShares(0, 0, 0);
        fund.fail(0, 1);
        fund.bid(1, 0, -1000);
        fund.close();
        Check.same("alone it is the greatest", fund.isJunior(1), false);
    }

    // "for more than half of the lots it bid for"
    private static void moreThanHalfOfItsOwnBids() {
        for (int low = 5; low <= 6; low++) {
            for (int made = 10; made <= 11; made++) {
                DefaultFund fund = Funds.withShares(0, 0, 0);
                fund.fail(0, 20);
                Funds.bidForAll(fund, 1, 20, 200);
                for (int lot = 0; lot < made; lot++) {
                    fund.bid(2, lot, lot >= made - low ? 99 : 300);
                }
                fund.close();
                Check.same(low + " low ones of " + made, fund.isJunior(2), low == 6);
                Check.same("the other, 100 below at most", fund.isJunior(1), false);
            }
        }
        // 101 below and 99 below make no two of 100: each lot counts by itself.
        DefaultFund fund = Funds.withShares(0, 0, 0);
        fund.fail(0, 2);
        Funds.bidForAll(fund, 1, 2, 0);
        fund.bid(2, 0, -1000);
        fund.bid(2, 1, -100);
        fund.close();
        Check.same("one of two, however low", fund.isJunior(2), false);
    }

    // "all others active become not junior"
    private static void ranksOfFirstMember() {
        DefaultFund fund = Funds.withShares(0, 0, 0);
        fund.fail(1, 1);
        fund.close();
        Check.same("the first", fund.isJunior(0), true);
        Check.same("the last", fund.isJunior(2), true);
        fund.giveNotice(2);
        int failed = fund.addMember(0, 0, 0);
        fund.fail(failed, 1);
        fund.bid(0, 0, 0);
        fund.bid(2, 0, -100);
        fund.close();
        Check.same("the first again", fund.isJunior(0), false);
        Check.same("one that leaves is ranked before", fund.isJunior(2), false);
    }
}
