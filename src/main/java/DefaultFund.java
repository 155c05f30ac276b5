public final class DefaultFund {
    public static final int NONE = -1;
    public static final int GOES_ON = 0, NOTICE = 1, FAILED = 2, LEFT = 3;

    private static final int MOST_MEMBERS = 10;
    private static final int MOST_COINS = 1000000;
    private static final int MOST_ROOM = 100;
    private static final int MOST_LOTS = 20;
    // Closed clients add at most the lots that their member had room for.
    private static final int MOST_AUCTIONED = MOST_LOTS + MOST_ROOM;
    private static final int MOST_PRICE = 1000;
    private static final int COST_WITHOUT_BIDS = 1000;
    private static final int NEAR_GREATEST = 100;
    // Below every price, so that each bid is greater than none.
    private static final int NO_BID = -MOST_PRICE - 1;

    private final Member[] members = new Member[MOST_MEMBERS];
    private final Auction auction = new Auction();
    private final Parting parting = new Parting();
    private int count = 0;
    private int capital = 0;
    private int loss = 0;
    private int uncovered = 0;
    private int failing = NONE;

    public DefaultFund() {
        for (int i = 0; i < MOST_MEMBERS; i++) {
            members[i] = new Member();
        }
    }

    // ---- members

    public int addMember(int margin, int share, int room)
            throws IllegalArgumentException, IllegalStateException {
        requireBetween(margin, 0, MOST_COINS);
        requireBetween(share, 0, MOST_COINS);
        requireBetween(room, 0, MOST_ROOM);
        if (count >= MOST_MEMBERS) {
            throw new IllegalStateException("there are 10 members");
        }
        members[count].join(margin, share, room);
        count++;
        return count - 1;
    }

    public int addClient(int member, int lots)
            throws IndexOutOfBoundsException, IllegalArgumentException, IllegalStateException {
        Member host = existing(member);
        requireBetween(lots, 1, MOST_LOTS);
        requireActive(host);
        if (!host.takesClient(lots)) {
            throw new IllegalStateException("the member has no room for the client");
        }
        return host.freeRoom();
    }

    public int setGain(int member, int gain)
            throws IndexOutOfBoundsException, IllegalArgumentException, IllegalStateException {
        Member changed = existing(member);
        requireBetween(gain, 0, MOST_COINS);
        requireActive(changed);
        int before = changed.gain;
        changed.gain = gain;
        return before;
    }

    public int setTested(int member, int loss)
            throws IndexOutOfBoundsException, IllegalArgumentException, IllegalStateException {
        Member changed = existing(member);
        requireBetween(loss, 0, MOST_COINS);
        requireActive(changed);
        int before = changed.tested;
        changed.tested = loss;
        return before;
    }

    public int setCapital(int capital) throws IllegalArgumentException {
        requireBetween(capital, 0, MOST_COINS);
        int before = this.capital;
        this.capital = capital;
        return before;
    }

    public void giveNotice(int member) throws IndexOutOfBoundsException, IllegalStateException {
        Member leaving = existing(member);
        if (leaving.state != GOES_ON) {
            throw new IllegalStateException("the member does not go on");
        }
        requireNoFailure();
        leaving.state = NOTICE;
    }

    public int size() throws IllegalStateException {
        requireNoFailure();
        int needed = neededFund();
        for (int i = 0; i < count; i++) {
            Member payer = members[i];
            // Nobody can get more than the whole: that bounds nobody.
            parting.enter(i, payer.isActive() ? payer.margin : 0, needed);
        }
        parting.part(needed);
        int growth = 0;
        for (int i = 0; i < count; i++) {
            growth += members[i].raiseShare(parting.partOf(i));
        }
        return growth;
    }

    // ---- a failure

    public int fail(int member, int lots)
            throws IndexOutOfBoundsException, IllegalArgumentException, IllegalStateException {
        Member failed = existing(member);
        requireBetween(lots, 1, MOST_LOTS);
        requireActive(failed);
        requireNoFailure();
        for (int i = 0; i < count; i++) {
            members[i].shareAtFailure = members[i].share;
        }
        failing = member;
        failed.state = FAILED;
        int auctioned = lots + moveClients(failed);
        auction.open(auctioned);
        return auctioned;
    }

    public void bid(int member, int lot, int price)
            throws IndexOutOfBoundsException, IllegalArgumentException, IllegalStateException {
        Member bidder = existing(member);
        if (failing == NONE || !auction.hasLot(lot)) {
            throw new IndexOutOfBoundsException("there is no such lot");
        }
        requireBetween(price, -MOST_PRICE, MOST_PRICE);
        requireActive(bidder);
        if (auction.bidOf(member, lot) != NO_BID) {
            throw new IllegalStateException("the member has bid for the lot");
        }
        auction.enter(member, lot, price);
    }

    public int close() throws IllegalStateException {
        if (failing == NONE) {
            throw new IllegalStateException("no failure is dealt with");
        }
        loss = Math.max(0, awardLots());
        rankBidders();
        int left = eatLoss(members[failing]);
        uncovered += left;
        endFailure(members[failing]);
        return left;
    }

    // ---- what can be asked for

    public int members() {
        return count;
    }

    public int state(int member) throws IndexOutOfBoundsException {
        return existing(member).state;
    }

    public int margin(int member) throws IndexOutOfBoundsException {
        return existing(member).margin;
    }

    public int share(int member) throws IndexOutOfBoundsException {
        return existing(member).share;
    }

    public int gain(int member) throws IndexOutOfBoundsException {
        return existing(member).gain;
    }

    public boolean isJunior(int member) throws IndexOutOfBoundsException {
        return existing(member).junior;
    }

    public int assessed(int member) throws IndexOutOfBoundsException {
        return existing(member).assessed;
    }

    public int clientLots(int member) throws IndexOutOfBoundsException {
        return existing(member).clientLots;
    }

    public int won(int member) throws IndexOutOfBoundsException {
        return existing(member).won;
    }

    public int capital() {
        return capital;
    }

    public int loss() {
        return loss;
    }

    public int uncovered() {
        return uncovered;
    }

    public int failing() {
        return failing;
    }

    // ---- what the calls require

    private Member existing(int member) {
        if (member < 0 || member >= count) {
            throw new IndexOutOfBoundsException("there is no such member");
        }
        return members[member];
    }

    private static void requireBetween(int value, int least, int most) {
        if (value < least || value > most) {
            throw new IllegalArgumentException("an argument is out of range");
        }
    }

    private static void requireActive(Member member) {
        if (!member.isActive()) {
            throw new IllegalStateException("the member is not active");
        }
    }

    private void requireNoFailure() {
        if (failing != NONE) {
            throw new IllegalStateException("a failure is dealt with");
        }
    }

    // ---- how the fund is sized

    private int neededFund() {
        int greatest = 0;
        int second = 0;
        for (int i = 0; i < count; i++) {
            int tested = members[i].isActive() ? members[i].tested : 0;
            second = Math.max(second, Math.min(tested, greatest));
            greatest = Math.max(greatest, tested);
        }
        return greatest + second;
    }

    // ---- how clients are moved

    /** Answers the lots of those clients for whom nobody has room. */
    private int moveClients(Member failed) {
        int closed = 0;
        for (int i = 0; i < failed.clientCount; i++) {
            int lots = failed.clients[i];
            if (!findsHost(lots)) {
                closed += lots;
            }
        }
        failed.dropClients();
        return closed;
    }

    private boolean findsHost(int lots) {
        for (int i = 0; i < count; i++) {
            if (members[i].isActive() && members[i].takesClient(lots)) {
                return true;
            }
        }
        return false;
    }

    // ---- how the auction ends

    /** Answers what all lots cost together: below 0 if they bring more than they cost. */
    private int awardLots() {
        int cost = 0;
        for (int lot = 0; lot < auction.lots; lot++) {
            int winner = auction.winnerOf(lot);
            if (winner == NONE) {
                cost += COST_WITHOUT_BIDS;
            } else {
                cost -= auction.bidOf(winner, lot);
                members[winner].won++;
            }
        }
        return cost;
    }

    private void rankBidders() {
        for (int i = 0; i < count; i++) {
            if (members[i].isActive()) {
                members[i].junior = auction.bidPoorly(i);
            }
        }
    }

    private void endFailure(Member failed) {
        failed.loseAll();
        for (int i = 0; i < count; i++) {
            if (members[i].state == NOTICE) {
                members[i].state = LEFT;
                members[i].loseAll();
            }
        }
        failing = NONE;
    }

    // ---- how the loss is eaten: each step answers what is left for the next

    private int eatLoss(Member failed) {
        int left = loss;
        left -= Math.min(left, failed.margin);
        left -= Math.min(left, failed.share);
        int paid = Math.min(left, capital);
        capital -= paid;
        left -= paid;
        left = eatShares(left, true);
        left = eatShares(left, false);
        left = eatAssessments(left);
        return eatGains(left);
    }

    private int eatShares(int amount, boolean ofJuniors) {
        for (int i = 0; i < count; i++) {
            Member payer = members[i];
            boolean pays = payer.isActive() && payer.junior == ofJuniors;
            parting.enter(i, pays ? payer.share : 0, payer.share);
        }
        int left = parting.part(amount);
        for (int i = 0; i < count; i++) {
            members[i].share -= parting.partOf(i);
        }
        return left;
    }

    private int eatAssessments(int amount) {
        for (int i = 0; i < count; i++) {
            Member payer = members[i];
            int whole = payer.isActive() ? payer.shareAtFailure : 0;
            parting.enter(i, whole, payer.state == NOTICE ? whole / 2 : whole);
        }
        int left = parting.part(amount);
        for (int i = 0; i < count; i++) {
            members[i].assessed += parting.partOf(i);
        }
        return left;
    }

    private int eatGains(int amount) {
        for (int i = 0; i < count; i++) {
            Member payer = members[i];
            parting.enter(i, payer.isActive() ? payer.gain : 0, payer.gain);
        }
        int left = parting.part(amount);
        for (int i = 0; i < count; i++) {
            members[i].gain -= parting.partOf(i);
        }
        return left;
    }

    private static final class Member {
        // The lots of each client, in the order in which the clients came.
        private final int[] clients = new int[MOST_ROOM];
        private int clientCount = 0;
        private int clientLots = 0;
        private int state = GOES_ON;
        private int margin = 0;
        private int share = 0;
        private int room = 0;
        private int gain = 0;
        private int tested = 0;
        private boolean junior = false;
        private int assessed = 0;
        private int won = 0;
        // Stays 0 for one that is added while a failure is dealt with: it had no share then.
        private int shareAtFailure = 0;

        private void join(int ownMargin, int ownShare, int ownRoom) {
            margin = ownMargin;
            share = ownShare;
            room = ownRoom;
        }

        private boolean isActive() {
            return state == GOES_ON || state == NOTICE;
        }

        private int freeRoom() {
            return room - clientLots;
        }

        private boolean takesClient(int lots) {
            if (lots > freeRoom() || clientCount >= MOST_ROOM) {
                return false;
            }
            clients[clientCount] = lots;
            clientCount++;
            clientLots += lots;
            return true;
        }

        private void dropClients() {
            clientCount = 0;
            clientLots = 0;
        }

        /** Answers by how much the share grows. */
        private int raiseShare(int part) {
            int growth = Math.max(0, part - share);
            share += growth;
            return growth;
        }

        private void loseAll() {
            margin = 0;
            share = 0;
            gain = 0;
            dropClients();
        }
    }

    private static final class Auction {
        private final int[][] bids = new int[MOST_MEMBERS][MOST_AUCTIONED];
        private int lots = 0;

        private void open(int auctioned) {
            lots = Math.min(auctioned, MOST_AUCTIONED);
            for (int member = 0; member < MOST_MEMBERS; member++) {
                for (int lot = 0; lot < lots; lot++) {
                    bids[member][lot] = NO_BID;
                }
            }
        }

        private boolean hasLot(int lot) {
            return lot >= 0 && lot < lots;
        }

        private int bidOf(int member, int lot) {
            return bids[member][lot];
        }

        private void enter(int member, int lot, int price) {
            bids[member][lot] = price;
        }

        private int winnerOf(int lot) {
            int winner = NONE;
            int greatest = NO_BID;
            for (int member = 0; member < MOST_MEMBERS; member++) {
                if (bids[member][lot] > greatest) {
                    greatest = bids[member][lot];
                    winner = member;
                }
            }
            return winner;
        }

        private boolean bidPoorly(int member) {
            int made = 0;
            int low = 0;
            for (int lot = 0; lot < lots; lot++) {
                if (bids[member][lot] != NO_BID) {
                    made++;
                    low += isLow(member, lot) ? 1 : 0;
                }
            }
            return 2 * made < lots || 2 * low > made;
        }

        private boolean isLow(int member, int lot) {
            int winner = winnerOf(lot);
            return winner != NONE && bids[winner][lot] - bids[member][lot] > NEAR_GREATEST;
        }
    }

    /** Parts an amount among members: entered are the weight and the bound of each. */
    private static final class Parting {
        private final int[] weights = new int[MOST_MEMBERS];
        private final int[] bounds = new int[MOST_MEMBERS];
        private final int[] parts = new int[MOST_MEMBERS];

        private void enter(int member, int weight, int bound) {
            weights[member] = weight;
            bounds[member] = bound;
        }

        private int partOf(int member) {
            return parts[member];
        }

        /** Answers what is left of the amount. */
        private int part(int amount) {
            int sum = 0;
            for (int i = 0; i < MOST_MEMBERS; i++) {
                sum += weights[i];
                parts[i] = 0;
            }
            if (sum <= 0) {
                return amount;
            }
            int left = amount;
            for (int i = 0; i < MOST_MEMBERS; i++) {
                int byWeight = (int) ((long) amount * weights[i] / sum);
                parts[i] = Math.min(byWeight, bounds[i]);
                left -= parts[i];
            }
            return giveCoins(left);
        }

        /**
         * Many rounds of one coin each are given at a stroke, as long as nobody's bound lies within
         * them. A stroke that reaches no bound leaves less than a round, so the strokes are few.
         */
        private int giveCoins(int rest) {
            int left = rest;
            for (int stroke = 0; stroke < MOST_MEMBERS + 2 && left > 0; stroke++) {
                int coins = roundsAtAStroke(left);
                for (int i = 0; i < MOST_MEMBERS; i++) {
                    if (canTake(i) && coins <= left) {
                        parts[i] += coins;
                        left -= coins;
                    }
                }
            }
            return left;
        }

        private int roundsAtAStroke(int left) {
            int takers = 0;
            int rounds = left;
            for (int i = 0; i < MOST_MEMBERS; i++) {
                if (canTake(i)) {
                    takers++;
                    rounds = Math.min(rounds, bounds[i] - parts[i]);
                }
            }
            if (takers == 0) {
                return 0;
            }
            return Math.max(1, Math.min(rounds, left / takers));
        }

        private boolean canTake(int member) {
            return weights[member] > 0 && parts[member] < bounds[member];
        }
    }
}
