/** Promises 16 to 18: best, foresee, advise. */
public final class AheadTest {
    private static final int[] FAR = {-1, Integer.MIN_VALUE, Integer.MAX_VALUE};

    public static void main(String[] args) {
        bestOfAWarmDryCellar();
        bestNowAndBehindSixtyDays();
        bestOfALostOne();
        bestIsRefused();
        foresee();
        foreseeIsWhatComes();
        foreseeIsRefused();
        adviseByWarmth();
        adviseOfSeveral();
        adviseToTheFirstFreePlace();
        adviseToThePlaceZero();
        adviseLeavesOutFullOnes();
        adviseByDays();
        adviseWithMonks();
        adviseIsRefused();
        Check.end("AheadTest");
    }

    private static void turnDaily(CheeseRota x, int cellar) {
        int monk = x.hire(cellar, 10);
        for (int day = 0; day < 7; day++) {
            x.setRota(monk, day, 1);
        }
    }

    private static void bestOfAWarmDryCellar() {
        CheeseRota x = new CheeseRota();
        x.build(9, 0);
        x.make(0, 0);
        // behind 8 days: 67 and a water of 40; behind 9: 71 - 5
        Check.dueWithoutChange(x, "best", () -> x.best(0), 8);
        x.pass(3);
        Check.dueWithoutChange(x, "best later", () -> x.best(0), 5);
        x.pass(5);
        Check.dueWithoutChange(x, "best at once", () -> x.best(0), 0);
        x.pass(4);
        Check.dueWithoutChange(x, "best when it grows worse", () -> x.best(0), 0);
    }

    private static void bestNowAndBehindSixtyDays() {
        CheeseRota x = new CheeseRota();
        x.build(1, 9);
        x.make(0, 0);
        Check.dueWithoutChange(x, "best of a worth of 0 always", () -> x.best(0), 0);
        turnDaily(x, 0);
        Check.dueWithoutChange(x, "best behind 60 days", () -> x.best(0), 60);
        x.pass(39);
        Check.dueWithoutChange(x, "best behind 60 days, not 61", () -> x.best(0), 60);
        x.pass(2);
        Check.dueWithoutChange(x, "best behind 59 days, when it is ripe", () -> x.best(0), 59);
        x.infect(0, 1);
        Check.dueWithoutChange(x, "best with white mould", () -> x.best(0), 59);
        x.infect(0, 2);
        x.air(0, 0, 9);
        Check.dueWithoutChange(x, "best when the blue mould is right, the least", () -> x.best(0), 1);
    }

    private static void bestOfALostOne() {
        CheeseRota x = new CheeseRota();
        x.build(9, 9);
        x.make(0, 0);
        x.make(0, 1);
        x.pass(20);
        x.infect(0, 3);
        // worth 20 with black mould while it lasts, 0 when it is lost
        Check.dueWithoutChange(x, "best of one with black mould", () -> x.best(0), 0);
        // its neighbour catches it on the second day
        Check.dueWithoutChange(x, "best of its neighbour", () -> x.best(1), 0);
        x.pass(100);
        Check.due("both are lost", x.count(5), 2);
        Check.dueWithoutChange(x, "best of a lost one", () -> x.best(0), -1);
    }

    private static void bestIsRefused() {
        CheeseRota x = new CheeseRota();
        Check.noSuch(x, "best without wheels", () -> x.best(0));
        x.build(9, 0);
        x.make(0, 0);
        for (int bad : FAR) {
            Check.noSuch(x, "best(bad)", () -> x.best(bad));
        }
        Check.noSuch(x, "best(1)", () -> x.best(1));
        x.sell(0);
        Check.dueWithoutChange(x, "best of a sold one", () -> x.best(0), -1);
    }

    private static void foresee() {
        CheeseRota x = new CheeseRota();
        Check.dueWithoutChange(x, "foresee of nothing", () -> x.foresee(100, 2), 0);
        x.build(9, 0);
        x.build(9, 2);
        x.make(0, 0);
        x.make(1, 0);
        x.make(1, 5);
        x.infect(1, 1);
        Check.dueWithoutChange(x, "lost behind 15 days", () -> x.foresee(15, 0), 0);
        Check.dueWithoutChange(x, "lost behind 16 days", () -> x.foresee(16, 0), 1);
        Check.dueWithoutChange(x, "lost behind 100 days", () -> x.foresee(100, 0), 3);
        Check.dueWithoutChange(x, "mouldy behind 1 day", () -> x.foresee(1, 1), 1);
        Check.dueWithoutChange(x, "mouldy behind 100 days", () -> x.foresee(100, 1), 0);
        // behind 10 days: 75 - 10 of the first, 85 and 75 of the others
        Check.dueWithoutChange(x, "worth behind 10 days", () -> x.foresee(10, 2), 65 + 85 + 75);
        // behind 16 days: 99, and a water of 16; the first is lost
        Check.dueWithoutChange(x, "worth behind 16 days", () -> x.foresee(16, 2), 85 + 75);
        x.sell(2);
        Check.dueWithoutChange(x, "worth without the sold one", () -> x.foresee(10, 2), 65 + 85);
        Check.due("pass", x.pass(16), 1);
        Check.dueWithoutChange(x, "lost, with those of before", () -> x.foresee(1, 0), 1);
        Check.dueWithoutChange(x, "lost, with those of before", () -> x.foresee(10, 0), 2);
    }

    private static CheeseRota busyDairy() {
        CheeseRota x = new CheeseRota();
        for (int cellar = 0; cellar < 4; cellar++) {
            x.build(2 + 2 * cellar, 9 - 2 * cellar);
            x.hire(cellar, 2 + cellar);
        }
        for (int number = 0; number < 24; number++) {
            x.make(number % 4, number / 4 + number / 12 * 2);
        }
        for (int monk = 0; monk < 4; monk++) {
            for (int day = 0; day < 7; day++) {
                x.setRota(monk, day, (monk + 2 * day + day / 3) % 4);
            }
        }
        for (int wheel = 0; wheel < 24; wheel += 5) {
            x.infect(wheel, 1 + wheel % 3);
        }
        return x;
    }

    private static void foreseeIsWhatComes() {
        for (int days = 1; days <= 100; days += 11) {
            CheeseRota x = busyDairy();
            x.pass(3);
            int lost = x.foresee(days, 0);
            int mouldy = x.foresee(days, 1);
            int worth = x.foresee(days, 2);
            x.pass(days);
            Check.due("foreseen losses in " + days, lost, x.count(5));
            Check.due("foreseen moulds in " + days, mouldy, x.count(6));
            int sum = 0;
            for (int wheel = 0; wheel < 24; wheel++) {
                sum += x.wheel(wheel, 0) == 0 ? x.wheel(wheel, 10) : 0;
            }
            Check.due("foreseen worth in " + days, worth, sum);
        }
    }

    private static void foreseeIsRefused() {
        CheeseRota x = new CheeseRota();
        int[] wrongDays = {0, -1, 101, Integer.MIN_VALUE, Integer.MAX_VALUE};
        for (int bad : wrongDays) {
            Check.badArgument(x, "foresee(bad, 0)", () -> x.foresee(bad, 0));
            Check.badArgument(x, "foresee(bad, 3)", () -> x.foresee(bad, 3));
        }
        for (int bad : FAR) {
            Check.noSuch(x, "foresee(1, bad)", () -> x.foresee(1, bad));
        }
        Check.noSuch(x, "foresee(100, 3)", () -> x.foresee(100, 3));
    }

    private static void adviseByWarmth() {
        CheeseRota x = new CheeseRota();
        x.build(4, 2);
        x.build(9, 2);
        x.build(6, 2);
        x.make(0, 5);
        Check.dueWithoutChange(x, "to the warmest", () -> x.advise(0, 10), 1);
        x.air(1, 0, 0);
        Check.dueWithoutChange(x, "to the next warm", () -> x.advise(0, 10), 2);
        x.air(0, 7, 2);
        Check.dueWithoutChange(x, "in its own", () -> x.advise(0, 10), 0);
    }

    private static void adviseOfSeveral() {
        CheeseRota x = new CheeseRota();
        x.build(5, 5);
        x.build(5, 5);
        x.build(5, 5);
        x.make(1, 0);
        Check.dueWithoutChange(x, "of several the smallest number", () -> x.advise(0, 20), 0);
        x.air(0, 0, 5);
        Check.dueWithoutChange(x, "of several the next number", () -> x.advise(0, 20), 1);
        Check.dueWithoutChange(x, "when all are worth 0", () -> x.advise(0, 1), 0);
        x.air(0, 0, 0);
        x.air(1, 0, 0);
        x.air(2, 0, 0);
        Check.dueWithoutChange(x, "when it is lost in all", () -> x.advise(0, 40), 0);
    }

    private static void adviseToTheFirstFreePlace() {
        CheeseRota x = new CheeseRota();
        x.build(9, 9);
        x.build(9, 9);
        x.make(1, 5);
        x.make(0, 0);
        x.make(0, 2);
        x.make(0, 9);
        x.pass(10);
        // the first free place is 1, beside the white one at 0, not one of 3 to 8
        x.infect(1, 1);
        Check.dueWithoutChange(x, "beside a white one", () -> x.advise(0, 5), 0);
        x.infect(1, 3);
        Check.dueWithoutChange(x, "beside a black one", () -> x.advise(0, 4), 1);
        x.carry(1, 0, 8);
        Check.dueWithoutChange(x, "far from a black one", () -> x.advise(0, 4), 0);
        // in its own it stays at its place, beside a white one
        x.make(1, 6);
        x.infect(4, 1);
        Check.dueWithoutChange(x, "in its own at its place", () -> x.advise(0, 4), 1);
    }

    private static void adviseToThePlaceZero() {
        CheeseRota x = new CheeseRota();
        x.build(9, 9);
        x.build(9, 9);
        x.make(1, 5);
        x.make(0, 2);
        x.pass(10);
        x.infect(1, 3);
        Check.dueWithoutChange(x, "at 0, not beside the black one at 2", () -> x.advise(0, 3), 0);
        x.carry(1, 0, 1);
        Check.dueWithoutChange(x, "at 0, beside the black one at 1", () -> x.advise(0, 3), 1);
    }

    private static void adviseLeavesOutFullOnes() {
        CheeseRota x = new CheeseRota();
        x.build(9, 5);
        x.build(3, 5);
        for (int place = 0; place < 10; place++) {
            x.make(0, place);
            x.make(1, place);
        }
        Check.dueWithoutChange(x, "the better one is full", () -> x.advise(19, 20), 1);
        Check.dueWithoutChange(x, "its own may be full", () -> x.advise(0, 20), 0);
        x.sell(18);
        Check.dueWithoutChange(x, "with the place 9 free", () -> x.advise(19, 20), 0);
        x.air(0, 0, 5);
        Check.dueWithoutChange(x, "to the other with the one place", () -> x.advise(0, 20), 0);
        x.sell(5);
        Check.dueWithoutChange(x, "to the warmer one", () -> x.advise(0, 20), 1);
    }

    private static void adviseByDays() {
        CheeseRota x = new CheeseRota();
        x.build(9, 0);
        x.build(2, 5);
        x.make(1, 0);
        x.pass(10);
        // ripeness 17, water 60, 10 idle days: in 0 it gains 4 and loses 5 a day, in 1 1 and 2
        Check.dueWithoutChange(x, "for 5 days: 32 and 12", () -> x.advise(0, 5), 0);
        Check.dueWithoutChange(x, "for 11 days: 26 and 26", () -> x.advise(0, 11), 0);
        Check.dueWithoutChange(x, "for 12 days: lost and 25", () -> x.advise(0, 12), 1);
        Check.dueWithoutChange(x, "for 40 days: lost in both", () -> x.advise(0, 40), 0);
    }

    private static void adviseWithMonks() {
        CheeseRota x = new CheeseRota();
        x.build(3, 9);
        x.build(2, 9);
        x.make(0, 0);
        x.pass(10);
        // ripeness 24, 10 idle days: in 0 it gains 1 a day, in 1, where it is turned, 2
        Check.dueWithoutChange(x, "without a monk", () -> x.advise(0, 20), 0);
        turnDaily(x, 1);
        Check.dueWithoutChange(x, "for 8 days: 0 and 0", () -> x.advise(0, 8), 0);
        Check.dueWithoutChange(x, "for 9 days: 0 and 2", () -> x.advise(0, 9), 1);
        Check.dueWithoutChange(x, "for 40 days: 24 and 60", () -> x.advise(0, 40), 1);
    }

    private static void adviseIsRefused() {
        CheeseRota x = new CheeseRota();
        Check.noSuch(x, "advise without wheels", () -> x.advise(0, 1));
        x.build(9, 0);
        x.make(0, 0);
        x.make(0, 1);
        int[] wrongDays = {0, -1, 41, Integer.MIN_VALUE, Integer.MAX_VALUE};
        for (int bad : wrongDays) {
            Check.badArgument(x, "advise(0, bad)", () -> x.advise(0, bad));
            Check.noSuch(x, "advise(2, bad)", () -> x.advise(2, bad));
        }
        for (int bad : FAR) {
            Check.noSuch(x, "advise(bad, 1)", () -> x.advise(bad, 1));
        }
        x.sell(0);
        Check.dueWithoutChange(x, "advise of a sold one", () -> x.advise(0, 1), -1);
        Check.badArgument(x, "advise of a sold one for no days", () -> x.advise(0, 0));
        x.pass(16);
        Check.dueWithoutChange(x, "advise of a lost one", () -> x.advise(1, 40), -1);
        Check.badArgument(x, "advise of a lost one for 41 days", () -> x.advise(1, 41));
    }
}
