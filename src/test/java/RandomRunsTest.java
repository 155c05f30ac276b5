import java.util.Random;
import java.util.function.IntSupplier;

/** Many runs of 512 calls with seeded numbers, each answer beside that of PlainFund. */
public final class RandomRunsTest {
    private static final int RUNS = 3000;
    private static final int CALLS = 512;

    private final Random random;
    private final int greatest;
    private final DefaultFund fund = new DefaultFund();
    private final PlainFund plain = new PlainFund();

    private RandomRunsTest(int seed) {
        random = new Random(seed);
        greatest = new int[] {3, 40, 1000, 30000, 1000000}[seed % 5];
    }

    public static void main(String[] args) {
        for (int run = 0; run < RUNS; run++) {
            new RandomRunsTest(run).go(run);
        }
        Check.end();
    }

    private void go(int run) {
        for (int i = 0; i < CALLS; i++) {
            String call = step();
            if (call != null) {
                Check.same("run " + run + ", call " + i + ": " + call, "other", "the same");
                return;
            }
        }
        Check.same("run " + run, Funds.asked(fund), plain.asked());
    }

    /** Answers the call if it went wrong, else null. */
    private String step() {
        int m = member();
        switch (random.nextInt(24)) {
            case 0: {
                int margin = coins();
                int share = coins();
                int room = wild() ? odd() : random.nextInt(101);
                return differs("addMember", () -> fund.addMember(margin, share, room),
                        () -> plain.addMember(margin, share, room));
            }
            case 1: case 2: case 3: {
                int lots = lots();
                return differs("addClient", () -> fund.addClient(m, lots), () -> plain.addClient(m, lots));
            }
            case 4: {
                int amount = coins();
                return differs("setGain", () -> fund.setGain(m, amount), () -> plain.setGain(m, amount));
            }
            case 5: case 6: {
                int amount = coins();
                return differs("setTested", () -> fund.setTested(m, amount), () -> plain.setTested(m, amount));
            }
            case 7: {
                int amount = coins();
                return differs("setCapital", () -> fund.setCapital(amount), () -> plain.setCapital(amount));
            }
            case 8:
                return random.nextInt(4) > 0 ? null : differs("giveNotice", () -> {
                    fund.giveNotice(m);
                    return 0;
                }, () -> plain.giveNotice(m));
            case 9:
                return differs("size", fund::size, plain::size);
            case 10: {
                int lots = lots();
                return random.nextInt(3) > 0 ? null
                        : differs("fail", () -> fund.fail(m, lots), () -> plain.fail(m, lots));
            }
            case 11:
                return random.nextInt(2) > 0 ? null : differs("close", fund::close, plain::close);
            default:
                return bid(m);
        }
    }

    private String bid(int m) {
        int lot = wild() ? odd() : random.nextInt(plain.lots.size() + 1);
        int near = random.nextInt(4) * 100 + random.nextInt(3) - 1;
        int price = wild() ? odd() : random.nextBoolean() ? -near : random.nextInt(2001) - 1000;
        return differs("bid", () -> {
            fund.bid(m, lot, price);
            return 0;
        }, () -> plain.bid(m, lot, price));
    }

    private String differs(String call, IntSupplier one, IntSupplier other) {
        String got = answer(one);
        String due = answer(other);
        if (!got.equals(due)) {
            return call + " answered " + got + ", due is " + due;
        }
        String state = Funds.asked(fund);
        String dueState = plain.asked();
        return state.equals(dueState) ? null : call + " left " + state + ", due is " + dueState;
    }

    private static String answer(IntSupplier call) {
        try {
            return Integer.toString(call.getAsInt());
        } catch (RuntimeException e) {
            return e.getClass().getName();
        }
    }

    private boolean wild() {
        return random.nextInt(30) == 0;
    }

    private int odd() {
        int[] values = {-1, 0, 10, 20, 21, 100, 101, 120, 1001, -1001, 1000001, Integer.MIN_VALUE, Integer.MAX_VALUE};
        return values[random.nextInt(values.length)];
    }

    private int member() {
        return wild() ? odd() : random.nextInt(plain.all.size() + 1);
    }

    private int lots() {
        return wild() ? odd() : 1 + random.nextInt(20);
    }

    private int coins() {
        return wild() ? odd() : random.nextInt(3) == 0 ? 0 : random.nextInt(greatest + 1);
    }
}
