import java.util.ArrayList;
import java.util.List;

/**
 * Calls that were chosen once and can be made again: on an object, on a twin of it, and on the
 * oracle. The same seed chooses the same calls.
 */
final class Script {
    enum Act { BUILD, AIR, MAKE, CARRY, INFECT, SELL, HIRE, SET_ROTA, PASS }

    record Call(Act act, int a, int b, int c) {
        long on(CheeseRota x) {
            return switch (act) {
                case BUILD -> x.build(a, b);
                case AIR -> x.air(a, b, c);
                case MAKE -> x.make(a, b);
                case CARRY -> x.carry(a, b, c);
                case INFECT -> x.infect(a, b);
                case SELL -> x.sell(a);
                case HIRE -> x.hire(a, b);
                case SET_ROTA -> x.setRota(a, b, c);
                case PASS -> x.pass(a);
            };
        }

        long on(Oracle o) {
            return switch (act) {
                case BUILD -> o.build(a, b);
                case AIR -> o.air(a, b, c);
                case MAKE -> o.make(a, b);
                case CARRY -> o.carry(a, b, c);
                case INFECT -> o.infect(a, b);
                case SELL -> o.sell(a);
                case HIRE -> o.hire(a, b);
                case SET_ROTA -> o.setRota(a, b, c);
                case PASS -> o.pass(a);
            };
        }
    }

    /** A day of a new monk's rota has one of these, so that most days have a work, mostly a turning. */
    private static final int[] WORKS = {1, 2, 3, 1, 1, 3, 1, 0};

    private final List<Call> calls = new ArrayList<>();
    private final int cellars;
    private long seed;

    /** Not more calls than this; the first ones build cellars and hire monks with a rota. */
    Script(long seed, int mostCalls) {
        this.seed = seed * 0x9E3779B97F4A7C15L + 1;
        cellars = 1 + below(4);
        openTheDairy();
        while (calls.size() < mostCalls) {
            choose();
        }
        calls.subList(mostCalls, calls.size()).clear();
    }

    List<Call> calls() {
        return calls;
    }

    /** A new object on which the calls were made. */
    CheeseRota played() {
        CheeseRota x = new CheeseRota();
        for (Call call : calls) {
            answer(() -> call.on(x));
        }
        return x;
    }

    interface Answered {
        long of();
    }

    /** The answer, or the name of the exception that was thrown. */
    static String answer(Answered call) {
        try {
            return Long.toString(call.of());
        } catch (RuntimeException e) {
            return e.getClass().getSimpleName();
        }
    }

    int below(int bound) {
        seed = seed * 6364136223846793005L + 1442695040888963407L;
        return (int) Math.floorMod(seed >>> 33, (long) bound);
    }

    private void add(Act act, int a, int b, int c) {
        calls.add(new Call(act, a, b, c));
    }

    private void openTheDairy() {
        for (int cellar = 0; cellar < cellars; cellar++) {
            add(Act.BUILD, below(10), 3 + below(7), 0);
        }
        int monks = below(5);
        for (int monk = 0; monk < monks; monk++) {
            add(Act.HIRE, below(cellars), 1 + below(10), 0);
            for (int day = 0; day <= 6; day++) {
                add(Act.SET_ROTA, monk, day, WORKS[below(8)]);
            }
        }
        for (int wheel = 0; wheel < 8; wheel++) {
            add(Act.MAKE, below(cellars), below(10), 0);
        }
    }

    /** A number at or beside the bounds now and then, so that some calls are refused. */
    private int upTo(int most) {
        return below(40) == 0 ? (below(2) == 0 ? -1 : most + 1) : below(most + 1);
    }

    private void choose() {
        switch (below(16)) {
            case 0, 1, 2, 3, 4 -> add(Act.PASS, 1 + below(below(6) == 0 ? 12 : 3), 0, 0);
            case 5, 6, 7 -> add(Act.MAKE, upTo(cellars - 1), upTo(9), 0);
            case 8, 9, 10 -> add(Act.INFECT, upTo(23), upTo(3), 0);
            case 11, 12 -> add(Act.CARRY, upTo(23), upTo(cellars - 1), upTo(9));
            case 13 -> add(Act.AIR, upTo(cellars - 1), upTo(9), 5 + upTo(4));
            case 14 -> add(Act.SET_ROTA, upTo(3), upTo(6), upTo(3));
            default -> {
                if (below(3) == 0) {
                    add(Act.SELL, upTo(23), 0, 0);
                }
            }
        }
    }
}
