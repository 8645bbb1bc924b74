import java.util.function.LongSupplier;

/** Runs of 512 calls each, the same ones every time, whose answers are compared with the oracle's. */
public final class RunsTest {
    private static final int RUNS = 1000;
    private static final int CALLS = 512;
    private static long seed = 1;

    public static void main(String[] args) {
        for (int run = 0; run < RUNS; run++) {
            run(run);
        }
        Check.end("RunsTest");
    }

    private static int below(int bound) {
        seed = seed * 6364136223846793005L + 1442695040888963407L;
        return (int) Math.floorMod(seed >>> 33, (long) bound);
    }

    /** Mostly from least to most, now and then beside or far off. */
    private static int near(int least, int most) {
        int luck = below(60);
        if (luck == 0) {
            return least - 1;
        }
        if (luck == 1) {
            return most + 1;
        }
        if (luck == 2) {
            return below(2) == 0 ? Integer.MIN_VALUE : Integer.MAX_VALUE;
        }
        return least + below(Math.max(most - least + 1, 1));
    }

    private static String answer(LongSupplier call) {
        try {
            return Long.toString(call.getAsLong());
        } catch (RuntimeException e) {
            return e.getClass().getSimpleName();
        }
    }

    private static void same(String call, LongSupplier got, LongSupplier want) {
        String answered = answer(got);
        String due = answer(want);
        Check.isTrue(call + " answered " + answered + ", due is " + due, answered.equals(due));
    }

    /** Each object is called 512 times and no more; the last call tells the digest. */
    private static void run(int run) {
        CheeseRota x = new CheeseRota();
        Oracle o = new Oracle();
        int mostDays = 1 + below(12);
        for (int call = 1; call <= CALLS; call++) {
            String told = "run " + run + ", call " + call;
            int kind = call < 40 ? below(9) : below(27);
            if (call == CALLS || kind == 26) {
                Check.due(told + " digest", x.digest(), o.digest());
            } else if (kind < 9) {
                act(told, kind, x, o);
            } else if (kind < 14) {
                look(told, kind - 9, x, o);
            } else {
                days(told, kind - 14, mostDays, x, o);
            }
        }
    }

    private static void act(String told, int kind, CheeseRota x, Oracle o) {
        int cellar = near(0, o.count(1) - 1);
        int place = near(0, 9);
        int wheel = near(0, o.count(2) - 1);
        int monk = near(0, o.count(8) - 1);
        int warmth = near(0, 9);
        int damp = near(below(3) == 0 ? 0 : 5, 9);
        int mould = near(0, 3);
        int hands = near(1, 10);
        int day = near(0, 6);
        int work = near(0, 3);
        switch (kind) {
            case 0 -> same(told + " build", () -> x.build(warmth, damp), () -> o.build(warmth, damp));
            case 1 -> same(told + " air", () -> x.air(cellar, warmth, damp), () -> o.air(cellar, warmth, damp));
            case 2, 3 -> same(told + " make", () -> x.make(cellar, place), () -> o.make(cellar, place));
            case 4 -> same(told + " carry", () -> x.carry(wheel, cellar, place), () -> o.carry(wheel, cellar, place));
            case 5 -> same(told + " infect", () -> x.infect(wheel, mould), () -> o.infect(wheel, mould));
            case 6 -> same(told + " hire", () -> x.hire(cellar, hands), () -> o.hire(cellar, hands));
            case 7 -> same(told + " setRota", () -> x.setRota(monk, day, work), () -> o.setRota(monk, day, work));
            default -> {
                if (below(6) == 0) {
                    same(told + " sell", () -> x.sell(wheel), () -> o.sell(wheel));
                }
            }
        }
    }

    private static void look(String told, int kind, CheeseRota x, Oracle o) {
        int cellar = near(0, o.count(1) - 1);
        int wheel = near(0, o.count(2) - 1);
        int monk = near(0, o.count(8) - 1);
        int what = near(0, new int[] {10, 3, 9, 4, 8}[kind]);
        switch (kind) {
            case 0 -> same(told + " wheel", () -> x.wheel(wheel, what), () -> o.wheel(wheel, what));
            case 1 -> same(told + " cellar", () -> x.cellar(cellar, what), () -> o.cellar(cellar, what));
            case 2 -> same(told + " at", () -> x.at(cellar, what), () -> o.at(cellar, what));
            case 3 -> same(told + " monk", () -> x.monk(monk, what), () -> o.monk(monk, what));
            default -> same(told + " count", () -> x.count(what), () -> o.count(what));
        }
    }

    private static void days(String told, int kind, int mostDays, CheeseRota x, Oracle o) {
        int wheel = near(0, o.count(2) - 1);
        int days = near(1, below(20) == 0 ? 100 : mostDays);
        int ahead = near(1, below(2) == 0 ? 100 : 15);
        int adviseDays = near(1, 40);
        int what = near(0, 2);
        switch (kind) {
            case 0, 1 -> same(told + " pass", () -> x.pass(days), () -> o.pass(days));
            case 2, 3 -> same(told + " best", () -> x.best(wheel), () -> o.best(wheel));
            case 4, 5, 6 -> same(told + " foresee", () -> x.foresee(ahead, what), () -> o.foresee(ahead, what));
            case 7, 8, 9 ->
                same(told + " advise", () -> x.advise(wheel, adviseDays), () -> o.advise(wheel, adviseDays));
            default -> Check.due(told + " mean", x.mean(), o.mean());
        }
    }
}
