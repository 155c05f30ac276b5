import java.util.ArrayList;
import java.util.List;

/**
 * The document told again in another way, for RandomRunsTest: lists instead of rows, and every coin
 * of a rest given by itself.
 */
final class PlainFund {
    static final class One {
        int state = 0;
        int margin;
        int share;
        int room;
        int gain = 0;
        int tested = 0;
        int shareThen = 0;
        boolean junior = false;
        int assessed = 0;
        int won = 0;
        List<Integer> clients = new ArrayList<>();

        boolean active() {
            return state <= 1;
        }

        int lots() {
            return clients.stream().mapToInt(c -> c).sum();
        }

        void goes(int newState) {
            state = newState;
            margin = 0;
            share = 0;
            gain = 0;
            clients.clear();
        }
    }

    final List<One> all = new ArrayList<>();
    final List<Integer[]> lots = new ArrayList<>();
    int capital = 0;
    int loss = 0;
    int uncovered = 0;
    int failing = -1;

    private static void argument(boolean holds) {
        if (!holds) {
            throw new IllegalArgumentException();
        }
    }

    private static void state(boolean holds) {
        if (!holds) {
            throw new IllegalStateException();
        }
    }

    One one(int member) {
        if (member < 0 || member >= all.size()) {
            throw new IndexOutOfBoundsException();
        }
        return all.get(member);
    }

    private static boolean coins(int amount) {
        return 0 <= amount && amount <= 1000000;
    }

    int addMember(int margin, int share, int room) {
        argument(coins(margin) && coins(share) && 0 <= room && room <= 100);
        state(all.size() < 10);
        One added = new One();
        added.margin = margin;
        added.share = share;
        added.room = room;
        all.add(added);
        return all.size() - 1;
    }

    int addClient(int member, int lotsOf) {
        One host = one(member);
        argument(1 <= lotsOf && lotsOf <= 20);
        state(host.active() && host.lots() + lotsOf <= host.room);
        host.clients.add(lotsOf);
        return host.room - host.lots();
    }

    int setGain(int member, int gain) {
        One changed = one(member);
        argument(coins(gain));
        state(changed.active());
        int before = changed.gain;
        changed.gain = gain;
        return before;
    }

    int setTested(int member, int tested) {
        One changed = one(member);
        argument(coins(tested));
        state(changed.active());
        int before = changed.tested;
        changed.tested = tested;
        return before;
    }

    int setCapital(int amount) {
        argument(coins(amount));
        int before = capital;
        capital = amount;
        return before;
    }

    int giveNotice(int member) {
        One leaving = one(member);
        state(leaving.state == 0 && failing < 0);
        leaving.state = 1;
        return 0;
    }

    int size() {
        state(failing < 0);
        List<Integer> losses = new ArrayList<>();
        long[] weights = new long[all.size()];
        long[] bounds = new long[all.size()];
        for (int i = 0; i < all.size(); i++) {
            bounds[i] = Long.MAX_VALUE;
            if (all.get(i).active()) {
                losses.add(all.get(i).tested);
                weights[i] = all.get(i).margin;
            }
        }
        losses.sort((a, b) -> b - a);
        long needed = 0;
        for (int i = 0; i < 2 && i < losses.size(); i++) {
            needed += losses.get(i);
        }
        long[] parts = part(needed, weights, bounds);
        int growth = 0;
        for (int i = 0; i < all.size(); i++) {
            if (parts[i] > all.get(i).share) {
                growth += (int) parts[i] - all.get(i).share;
                all.get(i).share = (int) parts[i];
            }
        }
        return growth;
    }

    /** Coin by coin, as the document's words go. */
    static long[] part(long amount, long[] weights, long[] bounds) {
        long sum = 0;
        for (long weight : weights) {
            sum += weight;
        }
        long[] parts = new long[weights.length];
        if (sum == 0) {
            return parts;
        }
        long rest = amount;
        for (int i = 0; i < parts.length; i++) {
            parts[i] = Math.min(amount * weights[i] / sum, bounds[i]);
            rest -= parts[i];
        }
        boolean given = true;
        while (given) {
            given = false;
            for (int i = 0; i < parts.length; i++) {
                if (rest > 0 && weights[i] > 0 && parts[i] < bounds[i]) {
                    parts[i]++;
                    rest--;
                    given = true;
                }
            }
        }
        return parts;
    }

    int fail(int member, int book) {
        One failed = one(member);
        argument(1 <= book && book <= 20);
        state(failed.active() && failing < 0);
        failing = member;
        failed.state = 2;
        for (One each : all) {
            each.shareThen = each.share;
        }
        int auctioned = book;
        for (int client : failed.clients) {
            One host = null;
            for (int i = all.size() - 1; i >= 0; i--) {
                One each = all.get(i);
                if (each.active() && each.room - each.lots() >= client) {
                    host = each;
                }
            }
            if (host == null) {
                auctioned += client;
            } else {
                host.clients.add(client);
            }
        }
        failed.clients.clear();
        lots.clear();
        for (int i = 0; i < auctioned; i++) {
            lots.add(new Integer[10]);
        }
        return auctioned;
    }

    int bid(int member, int lot, int price) {
        One bidder = one(member);
        if (failing < 0 || lot < 0 || lot >= lots.size()) {
            throw new IndexOutOfBoundsException();
        }
        argument(-1000 <= price && price <= 1000);
        state(bidder.active() && lots.get(lot)[member] == null);
        lots.get(lot)[member] = price;
        return 0;
    }

    int close() {
        state(failing >= 0);
        int[] made = new int[10];
        int[] low = new int[10];
        int cost = 0;
        for (Integer[] bids : lots) {
            int best = -1;
            for (int i = 9; i >= 0; i--) {
                if (bids[i] != null && (best < 0 || bids[i] >= bids[best])) {
                    best = i;
                }
            }
            if (best < 0) {
                cost += 1000;
                continue;
            }
            cost -= bids[best];
            all.get(best).won++;
            for (int i = 0; i < 10; i++) {
                made[i] += bids[i] != null ? 1 : 0;
                low[i] += bids[i] != null && bids[i] < bids[best] - 100 ? 1 : 0;
            }
        }
        for (int i = 0; i < all.size(); i++) {
            if (all.get(i).active()) {
                all.get(i).junior = made[i] < lots.size() / 2.0 || low[i] > made[i] / 2.0;
            }
        }
        loss = cost < 0 ? 0 : cost;
        int left = eat();
        uncovered += left;
        for (One each : all) {
            if (each == all.get(failing)) {
                each.goes(2);
            } else if (each.state == 1) {
                each.goes(3);
            }
        }
        failing = -1;
        lots.clear();
        return left;
    }

    private int eat() {
        long left = Math.max(0, loss - all.get(failing).margin - all.get(failing).share);
        long paid = Math.min(left, capital);
        capital -= (int) paid;
        left -= paid;
        for (int step = 4; step <= 7; step++) {
            long[] weights = new long[all.size()];
            long[] bounds = new long[all.size()];
            for (int i = 0; i < all.size(); i++) {
                One each = all.get(i);
                if (each.active() && (step >= 6 || each.junior == (step == 4))) {
                    weights[i] = step == 6 ? each.shareThen : step == 7 ? each.gain : each.share;
                    bounds[i] = step == 6 && each.state == 1 ? weights[i] / 2 : weights[i];
                }
            }
            long[] parts = part(left, weights, bounds);
            for (int i = 0; i < all.size(); i++) {
                left -= parts[i];
                all.get(i).assessed += step == 6 ? (int) parts[i] : 0;
                all.get(i).gain -= step == 7 ? (int) parts[i] : 0;
                all.get(i).share -= step <= 5 ? (int) parts[i] : 0;
            }
        }
        return (int) left;
    }

    String asked() {
        StringBuilder text = new StringBuilder();
        text.append("members ").append(all.size()).append(" capital ").append(capital)
                .append(" loss ").append(loss).append(" uncovered ").append(uncovered)
                .append(" failing ").append(failing);
        for (int i = 0; i < all.size(); i++) {
            One each = all.get(i);
            text.append(" [").append(i).append(" state ").append(each.state)
                    .append(" margin ").append(each.margin).append(" share ").append(each.share)
                    .append(" gain ").append(each.gain).append(" junior ").append(each.junior)
                    .append(" assessed ").append(each.assessed).append(" clients ").append(each.lots())
                    .append(" won ").append(each.won).append(']');
        }
        return text.toString();
    }
}
