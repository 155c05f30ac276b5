import java.util.Random;
import java.util.function.IntSupplier;

/** Many runs of 512 calls at most with seeded numbers, each answer beside that of PlainFund. */
public final class RandomRunsTest {
    private static final int RUNS = 12000;
    // Behind the 512th call every answer is free; all that can be asked of ten members is 85 calls.
    private static final int CALLS = 512 - 85;

    private final Random random;
    private final int greatest;
    private final DefaultFund fund = new DefaultFund();
    private final PlainFund plain = new PlainFund();
    private int calls = 0;

    private RandomRunsTest(int seed) {
        random = new Random(seed);
        greatest = new int[] {3, 40, 1000, 30000, 1000000}[seed % 5];
    }

    public static void main(String[] args) {
        for (int run = 0; run < RUNS; run++) {
            new RandomRunsTest(run).go(run);
        }
        Check.end();
    }

    private void go(int run) {
        while (calls + 2 <= CALLS) {
            String wrong = step();
            if (wrong == null) {
                wrong = ask();
            }
            if (wrong != null) {
                Check.same("run " + run + ", call " + calls + ": " + wrong, "other", "the same");
                return;
            }
        }
        Check.same("run " + run, Funds.asked(fund), plain.asked());
    }

    /** Answers the call if it went wrong, else null. */
    private String step() {
        int m = member();
        switch (random.nextInt(24)) {
            case 0: {
                int margin = coins();
                int share = coins();
                int room = wild() ? odd() : random.nextInt(101);
                return differs("addMember", () -> fund.addMember(margin, share, room),
                        () -> plain.addMember(margin, share, room));
            }
            case 1: case 2: case 3: {
                int lots = lots();
                return differs("addClient", () -> fund.addClient(m, lots), () -> plain.addClient(m, lots));
            }
            case 4: {
                int amount = coins();
                return differs("setGain", () -> fund.setGain(m, amount), () -> plain.setGain(m, amount));
            }
            case 5: case 6: {
                int amount = coins();
                return differs("setTested", () -> fund.setTested(m, amount), () -> plain.setTested(m, amount));
            }
            case 7: {
                int amount = coins();
                return differs("setCapital", () -> fund.setCapital(amount), () -> plain.setCapital(amount));
            }
            case 8:
                return random.nextInt(4) > 0 ? null : differs("giveNotice", () -> {
                    fund.giveNotice(m);
                    return 0;
                }, () -> plain.giveNotice(m));
            case 9:
                return differs("size", fund::size, plain::size);
            case 10: {
                int lots = lots();
                return random.nextInt(3) > 0 ? null
                        : differs("fail", () -> fund.fail(m, lots), () -> plain.fail(m, lots));
            }
            case 11:
                return random.nextInt(2) > 0 ? null : differs("close", fund::close, plain::close);
            default:
                return bid(m);
        }
    }

    private String bid(int m) {
        int lot = wild() ? odd() : random.nextInt(plain.lots.size() + 1);
        int near = random.nextInt(4) * 100 + random.nextInt(3) - 1;
        int price = wild() ? odd() : random.nextBoolean() ? -near : random.nextInt(2001) - 1000;
        return differs("bid", () -> {
            fund.bid(m, lot, price);
            return 0;
        }, () -> plain.bid(m, lot, price));
    }

    private String ask() {
        int m = member();
        switch (random.nextInt(13)) {
            case 0:
                return differs("state", () -> fund.state(m), () -> plain.one(m).state);
            case 1:
                return differs("margin", () -> fund.margin(m), () -> plain.one(m).margin);
            case 2:
                return differs("share", () -> fund.share(m), () -> plain.one(m).share);
            case 3:
                return differs("gain", () -> fund.gain(m), () -> plain.one(m).gain);
            case 4:
                return differs("isJunior", () -> fund.isJunior(m) ? 1 : 0, () -> plain.one(m).junior ? 1 : 0);
            case 5:
                return differs("assessed", () -> fund.assessed(m), () -> plain.one(m).assessed);
            case 6:
                return differs("clientLots", () -> fund.clientLots(m), () -> plain.one(m).lots());
            case 7:
                return differs("won", () -> fund.won(m), () -> plain.one(m).won);
            case 8:
                return differs("members", fund::members, () -> plain.all.size());
            case 9:
                return differs("capital", fund::capital, () -> plain.capital);
            case 10:
                return differs("loss", fund::loss, () -> plain.loss);
            case 11:
                return differs("uncovered", fund::uncovered, () -> plain.uncovered);
            default:
                return differs("failing", fund::failing, () -> plain.failing);
        }
    }

    private String differs(String call, IntSupplier one, IntSupplier other) {
        calls++;
        String got = answer(one);
        String due = answer(other);
        return got.equals(due) ? null : call + " answered " + got + ", due is " + due;
    }

    private static String answer(IntSupplier call) {
        try {
            return Integer.toString(call.getAsInt());
        } catch (RuntimeException e) {
            return e.getClass().getName();
        }
    }

    private boolean wild() {
        return random.nextInt(30) == 0;
    }

    private int odd() {
        int[] values = {-1, 0, 10, 20, 21, 100, 101, 120, 1001, -1001, 1000001, Integer.MIN_VALUE, Integer.MAX_VALUE};
        return values[random.nextInt(values.length)];
    }

    private int member() {
        return wild() ? odd() : random.nextInt(plain.all.size() + 1);
    }

    private int lots() {
        return wild() ? odd() : 1 + random.nextInt(20);
    }

    private int coins() {
        return wild() ? odd() : random.nextInt(3) == 0 ? 0 : random.nextInt(greatest + 1);
    }
}
