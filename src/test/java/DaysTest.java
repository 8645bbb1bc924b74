/** Promise 15, and what a day does, in its order of steps 1 to 4. */
public final class DaysTest {
    public static void main(String[] args) {
        pass();
        walk();
        walkOnceWithManyHands();
        walkBehindACarriedWheel();
        rotaByRemainderOfSeven();
        saltAndCatching();
        handsByGrowth();
        handsAreCleanedAndChanged();
        wash();
        washedOneCatchesFromTheHands();
        monksByNumbers();
        leapInADryCellar();
        leapInADampCellar();
        leapFromBeforeAheadOfBehind();
        leapOnePlaceADay();
        leapNotOverTheEnds();
        leapNotOnSalt();
        growthAndSalt();
        ripening();
        drying();
        losing();
        Check.end("DaysTest");
    }

    private static CheeseRota dairy(int warmth, int damp, int... places) {
        CheeseRota x = new CheeseRota();
        x.build(warmth, damp);
        for (int place : places) {
            x.make(0, place);
        }
        return x;
    }

    private static void hireFor(CheeseRota x, int hands, int work) {
        int monk = x.hire(0, hands);
        for (int day = 0; day < 7; day++) {
            x.setRota(monk, day, work);
        }
    }

    private static void pass() {
        CheeseRota x = dairy(0, 0, 0, 1);
        int[] wrong = {0, -1, 101, Integer.MIN_VALUE, Integer.MAX_VALUE};
        for (int bad : wrong) {
            Check.badArgument(x, "pass(bad)", () -> x.pass(bad));
        }
        Check.due("pass(1)", x.pass(1), 0);
        Check.due("day", x.count(0), 1);
        Check.due("pass(15)", x.pass(15), 2);
        x.make(0, 0);
        Check.due("pass(100)", x.pass(100), 1);
        Check.due("day", x.count(0), 116);
        Check.due("pass with none left", x.pass(100), 0);
        Check.due("lost in all", x.count(5), 3);
    }

    private static void walk() {
        CheeseRota x = dairy(0, 9, 2, 5, 9);
        hireFor(x, 2, 1);
        int[][] idle = {{1, 1, 1}, {1, 2, 1}, {2, 1, 1}, {1, 1, 2}};
        int[] latest = {5, 2, 9, 5};
        for (int day = 0; day < 4; day++) {
            x.pass(1);
            for (int wheel = 0; wheel < 3; wheel++) {
                Check.due("idle of " + wheel + " behind day " + day, x.wheel(wheel, 6), idle[day][wheel]);
            }
            Check.due("latest behind day " + day, x.monk(0, 3), latest[day]);
        }
    }

    private static void walkOnceWithManyHands() {
        CheeseRota x = dairy(0, 9, 3, 7);
        hireFor(x, 10, 2);
        x.pass(1);
        Check.due("salted once", x.wheel(0, 4), 2);
        Check.due("salted once", x.wheel(1, 4), 2);
        Check.due("latest", x.monk(0, 3), 7);
        x.carry(0, 0, 8);
        x.pass(1);
        Check.due("salted once a day", x.wheel(0, 4), 4);
        Check.due("salted once a day", x.wheel(1, 4), 4);
        Check.due("the place of before comes last", x.monk(0, 3), 7);
        CheeseRota empty = dairy(0, 9);
        hireFor(empty, 10, 3);
        empty.pass(1);
        Check.due("no wheel worked on", empty.monk(0, 3), -1);
        CheeseRota full = dairy(0, 9, 0, 1, 2, 3, 4, 5, 6, 7, 8, 9);
        hireFor(full, 10, 2);
        full.pass(3);
        Check.due("first of ten", full.wheel(0, 4), 6);
        Check.due("last of ten", full.wheel(9, 4), 6);
        Check.due("latest of ten", full.monk(0, 3), 9);
    }

    private static void walkBehindACarriedWheel() {
        CheeseRota x = dairy(0, 9, 4, 6);
        hireFor(x, 1, 2);
        x.pass(1);
        Check.due("latest", x.monk(0, 3), 4);
        x.carry(0, 0, 5);
        Check.due("latest place stays", x.monk(0, 3), 4);
        x.pass(1);
        Check.due("the next place's one is worked on", x.wheel(0, 4), 4);
        Check.due("the other is not", x.wheel(1, 4), 0);
        x.sell(1);
        x.pass(2);
        Check.due("one alone is worked on each day", x.wheel(0, 4), 8);
        x.carry(0, 0, 9);
        x.make(0, 0);
        x.make(0, 8);
        x.pass(1);
        Check.due("behind the place 5 first the place 8", x.monk(0, 3), 8);
        x.pass(1);
        Check.due("then the place 9", x.monk(0, 3), 9);
        x.pass(1);
        Check.due("behind the place 9 the place 0", x.monk(0, 3), 0);
        x.setRota(0, x.count(0) % 7, 0);
        x.pass(1);
        Check.due("a rest leaves the latest place", x.monk(0, 3), 0);
        x.pass(1);
        Check.due("behind a rest it goes on there", x.monk(0, 3), 8);
    }

    private static void rotaByRemainderOfSeven() {
        CheeseRota x = dairy(0, 9, 0);
        x.hire(0, 1);
        x.setRota(0, 0, 2);
        x.setRota(0, 6, 1);
        int[] salt = {2, 2, 2, 2, 2, 2, 2, 4, 4, 4, 4, 4, 4, 4, 6};
        int[] idle = {1, 2, 3, 4, 5, 6, 1, 2, 3, 4, 5, 6, 7, 1, 2};
        for (int day = 0; day < salt.length; day++) {
            x.pass(1);
            Check.due("salt behind day " + day, x.wheel(0, 4), salt[day]);
            Check.due("idle behind day " + day, x.wheel(0, 6), idle[day]);
        }
    }

    /** A monk of two hands with mould, going on to a wheel of this salt ahead of the work. */
    private static CheeseRota carriedToSalt(int salt, int work) {
        CheeseRota x = dairy(0, 9, 9);
        hireFor(x, 1, 2);
        for (int day = 0; day < salt / 2; day++) {
            x.pass(1);
        }
        for (int day = 0; day < 7; day++) {
            x.setRota(0, day, 0);
        }
        x.make(0, 0);
        x.infect(1, 2);
        x.pass(2);
        Check.due("growth", x.wheel(1, 8), 5);
        hireFor(x, 2, work);
        x.pass(1);
        Check.due("the second monk's hands", x.monk(1, 2), 2);
        return x;
    }

    private static void saltAndCatching() {
        CheeseRota x = carriedToSalt(6, 1);
        Check.due("salt of 6 catches", x.wheel(0, 7), 2);
        Check.due("from the monk", x.wheel(0, 9), 101);
        Check.due("growth 1 and 2 more", x.wheel(0, 8), 3);
        Check.due("salt of 8 catches none", carriedToSalt(8, 1).wheel(0, 7), 0);
        Check.due("salt of 4 salted catches", carriedToSalt(4, 2).wheel(0, 7), 2);
        Check.due("salt of 6 salted to 8 catches none", carriedToSalt(6, 2).wheel(0, 7), 0);
        CheeseRota y = dairy(0, 9, 0);
        hireFor(y, 1, 2);
        y.pass(10);
        Check.due("salt 20", y.wheel(0, 4), 20);
        y.pass(1);
        Check.due("salt at most 20", y.wheel(0, 4), 20);
    }

    private static void handsByGrowth() {
        CheeseRota x = dairy(0, 5, 0, 5);
        hireFor(x, 2, 1);
        x.infect(0, 1);
        x.pass(2);
        Check.due("growth 3", x.wheel(0, 8), 3);
        x.pass(1);
        Check.due("a growth of 3 is not carried", x.monk(0, 2), 0);
        Check.due("none caught", x.wheel(1, 7), 0);
        Check.due("growth 4", x.wheel(0, 8), 4);
        x.pass(1);
        Check.due("a growth of 4 is carried", x.monk(0, 2), 1);
        Check.due("caught", x.wheel(1, 7), 1);
        Check.due("caught from", x.wheel(1, 9), 100);
        Check.due("caught growth", x.wheel(1, 8), 2);
        Check.due("its own stays from nowhere", x.wheel(0, 9), -1);
    }

    private static void handsAreCleanedAndChanged() {
        CheeseRota x = dairy(0, 9, 0, 5, 8);
        x.hire(0, 1);
        for (int day = 0; day < 7; day++) {
            x.setRota(0, day, day == 4 ? 0 : 1);
        }
        x.infect(0, 2);
        x.infect(1, 3);
        x.carry(0, 0, 9);
        x.carry(1, 0, 0);
        // day 0: the black one at 0 has growth 1; day 1: the one at 8; day 2: the blue one at 9
        x.pass(1);
        Check.due("clean behind day 0", x.monk(0, 2), 0);
        x.pass(1);
        Check.due("clean behind day 1", x.monk(0, 2), 0);
        x.pass(1);
        Check.due("blue behind day 2", x.monk(0, 2), 2);
        Check.due("lost is none", x.count(5), 0);
        x.pass(1);
        Check.due("black behind day 3", x.monk(0, 2), 3);
        x.pass(1);
        Check.due("clean behind a rest", x.monk(0, 2), 0);
    }

    private static void wash() {
        int[] behind = {0, 0, 0, 2, 3, 4, 5, 6};
        for (int growth = 1; growth <= 8; growth++) {
            CheeseRota x = dairy(0, 5, 0);
            x.infect(0, 1);
            if (growth > 1) {
                x.pass(growth - 1);
            }
            Check.due("growth ahead", x.wheel(0, 8), growth);
            hireFor(x, 1, 3);
            x.pass(1);
            Check.due("growth behind a washing of " + growth, x.wheel(0, 8), behind[growth - 1]);
            Check.due("mould behind a washing of " + growth, x.wheel(0, 7), growth <= 3 ? 0 : 1);
            Check.due("hands by the growth behind the washing", x.monk(0, 2), growth >= 7 ? 1 : 0);
        }
        CheeseRota y = dairy(0, 5, 0);
        hireFor(y, 1, 3);
        y.pass(1);
        Check.due("washing without a mould", y.wheel(0, 8), 0);
        Check.due("washing turns not", y.wheel(0, 6), 1);
        CheeseRota z = dairy(0, 5, 0, 1);
        z.infect(0, 1);
        z.pass(5);
        Check.due("from a wheel", z.wheel(1, 9), 0);
        z.sell(0);
        hireFor(z, 1, 3);
        z.pass(1);
        Check.due("washed off", z.wheel(1, 7), 0);
        Check.due("from nowhere without one", z.wheel(1, 9), -1);
    }

    private static void washedOneCatchesFromTheHands() {
        CheeseRota x = dairy(0, 5, 0, 5);
        x.infect(0, 1);
        x.pass(6);
        x.infect(1, 3);
        hireFor(x, 2, 3);
        x.pass(1);
        Check.due("hands", x.monk(0, 2), 1);
        Check.due("the washed one's mould", x.wheel(1, 7), 1);
        Check.due("from the hands", x.wheel(1, 9), 100);
        Check.due("its growth", x.wheel(1, 8), 2);
    }

    private static void monksByNumbers() {
        CheeseRota x = dairy(0, 9, 0, 5);
        x.infect(0, 1);
        x.pass(1);
        Check.due("growth 3", x.wheel(0, 8), 3);
        x.pass(1);
        hireFor(x, 2, 3);
        hireFor(x, 2, 1);
        x.pass(1);
        Check.due("the washing monk comes first", x.monk(1, 2), 0);
        Check.due("none caught", x.wheel(1, 7), 0);
        CheeseRota y = dairy(0, 9, 0, 5);
        y.infect(0, 1);
        y.pass(2);
        hireFor(y, 2, 1);
        hireFor(y, 2, 3);
        y.pass(1);
        Check.due("the turning monk comes first", y.monk(0, 2), 1);
        Check.due("caught and washed off", y.wheel(1, 7), 0);
        Check.due("clean hands of the washing monk", y.monk(1, 2), 0);
    }

    private static void leapInADryCellar() {
        CheeseRota x = dairy(0, 5, 3, 4, 2);
        x.infect(0, 2);
        x.pass(4);
        Check.due("growth 5", x.wheel(0, 8), 5);
        Check.due("a growth of 4 leaps not", x.count(6), 1);
        x.pass(1);
        for (int wheel = 1; wheel <= 2; wheel++) {
            Check.due("a growth of 5 leaps", x.wheel(wheel, 7), 2);
            Check.due("growth", x.wheel(wheel, 8), 2);
            Check.due("from", x.wheel(wheel, 9), 0);
        }
    }

    private static void leapInADampCellar() {
        CheeseRota x = dairy(0, 6, 3, 4);
        x.infect(0, 3);
        x.pass(1);
        Check.due("a growth of 1 leaps not", x.wheel(1, 7), 0);
        Check.due("growth 3", x.wheel(0, 8), 3);
        x.pass(1);
        Check.due("a growth of 3 leaps", x.wheel(1, 7), 3);
        Check.due("growth", x.wheel(1, 8), 3);
        CheeseRota y = dairy(0, 5, 3, 4);
        y.infect(0, 1);
        y.pass(1);
        y.air(0, 0, 6);
        y.pass(1);
        Check.due("a growth of 2 leaps not", y.wheel(1, 7), 0);
        CheeseRota z = dairy(0, 5, 3, 4);
        z.infect(0, 1);
        z.pass(2);
        z.pass(1);
        Check.due("a growth of 3 leaps not with a damp of 5", z.wheel(1, 7), 0);
    }

    private static void leapFromBeforeAheadOfBehind() {
        CheeseRota x = dairy(0, 9, 5, 4, 6);
        x.infect(1, 1);
        x.infect(2, 2);
        x.pass(2);
        Check.due("from before", x.wheel(0, 7), 1);
        Check.due("from before", x.wheel(0, 9), 1);
        CheeseRota y = dairy(0, 5, 5, 4, 6);
        y.infect(2, 2);
        y.pass(4);
        y.infect(1, 1);
        y.pass(1);
        Check.due("from behind, if the one before is small", y.wheel(0, 7), 2);
        Check.due("from behind, if the one before is small", y.wheel(0, 9), 2);
    }

    private static void leapOnePlaceADay() {
        CheeseRota x = dairy(0, 9, 0, 1, 2, 3);
        x.infect(0, 1);
        int[] mouldy = {1, 2, 3, 4};
        for (int day = 0; day < 4; day++) {
            x.pass(1);
            Check.due("mouldy behind day " + day, x.count(6), mouldy[day]);
        }
        Check.due("from its neighbour", x.wheel(3, 9), 2);
        CheeseRota y = dairy(0, 9, 3, 2, 1, 0);
        y.infect(0, 1);
        for (int day = 0; day < 4; day++) {
            y.pass(1);
            Check.due("mouldy to the other side behind day " + day, y.count(6), mouldy[day]);
        }
    }

    private static void leapNotOverTheEnds() {
        CheeseRota x = dairy(0, 9, 0, 9);
        x.build(0, 9);
        x.make(1, 0);
        x.make(1, 9);
        x.infect(0, 1);
        x.infect(3, 2);
        x.pass(20);
        Check.due("the other end catches none", x.wheel(1, 7), 0);
        Check.due("nor the other cellar's", x.wheel(2, 7), 0);
        CheeseRota gap = dairy(0, 9, 4, 6);
        gap.infect(0, 1);
        gap.pass(20);
        Check.due("nor one over a free place", gap.wheel(1, 7), 0);
    }

    private static void leapNotOnSalt() {
        for (int salt = 6; salt <= 8; salt += 2) {
            CheeseRota x = dairy(0, 9, 5);
            hireFor(x, 1, 2);
            x.pass(salt / 2);
            for (int day = 0; day < 7; day++) {
                x.setRota(0, day, 0);
            }
            x.make(0, 4);
            x.infect(1, 2);
            x.pass(3);
            Check.due("a leap on a salt of " + salt, x.wheel(0, 7), salt < 8 ? 2 : 0);
        }
    }

    private static void growthAndSalt() {
        CheeseRota x = dairy(0, 6, 0);
        hireFor(x, 1, 2);
        x.pass(4);
        x.infect(0, 1);
        x.pass(1);
        Check.due("salt 10", x.wheel(0, 4), 10);
        Check.due("it grows on a salt of 10", x.wheel(0, 8), 3);
        x.pass(1);
        Check.due("salt 12", x.wheel(0, 4), 12);
        Check.due("it grows not on a salt of 12", x.wheel(0, 8), 3);
        CheeseRota y = dairy(0, 7, 0);
        y.infect(0, 2);
        y.pass(4);
        Check.due("growth 9", y.wheel(0, 8), 9);
        y.pass(1);
        Check.due("growth at most 9", y.wheel(0, 8), 9);
        Check.due("blue of a growth of 9 is not lost", y.wheel(0, 0), 0);
    }

    private static void ripening() {
        CheeseRota x = dairy(9, 9, 0);
        x.pass(7);
        Check.due("7 days of 9", x.wheel(0, 3), 63);
        Check.due("7 idle days", x.wheel(0, 6), 7);
        x.pass(1);
        Check.due("then half of 9, cut", x.wheel(0, 3), 67);
        x.pass(8);
        Check.due("near the most", x.wheel(0, 3), 99);
        x.pass(1);
        Check.due("at most 100", x.wheel(0, 3), 100);
        CheeseRota y = dairy(9, 9, 0);
        y.pass(7);
        hireFor(y, 1, 1);
        y.pass(1);
        Check.due("all of it behind a turning", y.wheel(0, 3), 72);
        Check.due("one idle day", y.wheel(0, 6), 1);
        CheeseRota cold = dairy(0, 9, 0);
        cold.pass(100);
        Check.due("no warmth", cold.wheel(0, 3), 0);
        Check.due("idle days", cold.wheel(0, 6), 100);
    }

    private static void drying() {
        int[] less = {5, 4, 4, 3, 3, 2, 2, 1, 1, 0};
        for (int damp = 0; damp <= 9; damp++) {
            CheeseRota x = dairy(0, damp, 0);
            x.pass(3);
            Check.due("water with a damp of " + damp, x.wheel(0, 5), 80 - 3 * less[damp]);
        }
        CheeseRota y = dairy(0, 3, 0);
        Check.due("26 days", y.pass(26), 0);
        Check.due("water 2", y.wheel(0, 5), 2);
        Check.due("the day 27", y.pass(1), 1);
        Check.due("water at least 0", y.wheel(0, 5), 0);
    }

    private static void losing() {
        CheeseRota x = dairy(9, 5, 0, 5);
        x.infect(0, 3);
        Check.due("black of a growth of 8", x.pass(7), 0);
        Check.due("growth 8", x.wheel(0, 8), 8);
        Check.due("black of a growth of 9", x.pass(1), 1);
        Check.due("lost", x.wheel(0, 0), 2);
        Check.due("its growth as it was", x.wheel(0, 8), 9);
        Check.due("its ripeness as it was", x.wheel(0, 3), 67);
        x.pass(10);
        Check.due("it ages no more", x.wheel(0, 6), 8);
        Check.due("in cellars", x.count(3), 1);
        Check.due("white is not lost", whiteLost(), 0);
    }

    private static int whiteLost() {
        CheeseRota x = dairy(0, 9, 0);
        x.infect(0, 1);
        return x.pass(100);
    }
}
