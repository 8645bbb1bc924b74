import java.util.List;

/**
 * The promises at work together in one object: days with monks, moulds that leap and are carried,
 * losses and sales between, told day by day in numbers that were reckoned by hand, held against the
 * oracle, and held against twins on which the days that were looked at ahead really go by.
 */
public final class TogetherTest {
    private static final int RUNS = 400;
    /** What is there is told by at most 351 calls, so that 161 are left of 512. */
    private static final int CALLS_AHEAD_OF_A_LOOK_ROUND = 160;
    private static final int CALLS_AHEAD_OF_DAYS = 110;

    private static final int TURN = 1;
    private static final int SALT = 2;
    private static final int WASH = 3;
    private static final int BLUE = 2;
    private static final int BLACK = 3;

    public static void main(String[] args) {
        aWeekTold();
        theNextWeekTold();
        whatIsThereBehindRuns();
        lookingAheadIsWhatComes();
        adviceIsWhatComes();
        lookingAheadChangesNothing();
        Check.end("TogetherTest");
    }

    // ---- told day by day

    /** Warmth 6, damp 5: 6 more ripeness and 2 less water a day; the rota has a rest on 1 and 5. */
    private static CheeseRota abbey() {
        CheeseRota x = Dairies.oneCellar(6, 5, 0, 1, 4, 9);
        x.hire(0, 2);
        int[] rota = {TURN, 0, SALT, TURN, WASH, 0, TURN};
        for (int day = 0; day <= 6; day++) {
            x.setRota(0, day, rota[day]);
        }
        x.infect(0, BLUE);
        return x;
    }

    /** Ripeness, salt, water, idle days, mould, growth and from where, as the facts 3 to 9 are told. */
    private static void wheelIs(CheeseRota x, int wheel, int... due) {
        int day = x.count(0);
        for (int i = 0; i < due.length; i++) {
            Check.due("on the day " + day + " wheel(" + wheel + ", " + (3 + i) + ")", x.wheel(wheel, 3 + i), due[i]);
        }
    }

    private static void monkIs(CheeseRota x, int onHands, int latest) {
        int day = x.count(0);
        Check.due("on the day " + day + " the hands", x.monk(0, 2), onHands);
        Check.due("on the day " + day + " the latest place", x.monk(0, 3), latest);
    }

    private static void aWeekTold() {
        CheeseRota x = abbey();
        Check.due("turning 0 and 1", x.pass(1), 0);
        wheelIs(x, 0, 6, 0, 78, 1, BLUE, 2, -1);
        wheelIs(x, 3, 6, 0, 78, 1, 0, 0, -1);
        monkIs(x, 0, 1);
        Check.due("a rest", x.pass(1), 0);
        monkIs(x, 0, 1);
        Check.due("salting 2 and 3", x.pass(1), 0);
        wheelIs(x, 0, 18, 0, 74, 3, BLUE, 4, -1);
        wheelIs(x, 1, 18, 0, 74, 3, 0, 0, -1);
        wheelIs(x, 2, 18, 2, 74, 3, 0, 0, -1);
        wheelIs(x, 3, 18, 2, 74, 3, 0, 0, -1);
        monkIs(x, 0, 9);
        Check.due("turning 0 and, with its mould on the hands, 1", x.pass(1), 0);
        wheelIs(x, 0, 24, 0, 72, 1, BLUE, 5, -1);
        wheelIs(x, 1, 24, 0, 72, 1, BLUE, 2, 100);
        wheelIs(x, 2, 24, 2, 72, 4, 0, 0, -1);
        monkIs(x, BLUE, 1);
        Check.due("washing 2 and 3 with it", x.pass(1), 0);
        wheelIs(x, 0, 30, 0, 70, 2, BLUE, 6, -1);
        wheelIs(x, 1, 30, 0, 70, 2, BLUE, 3, 100);
        wheelIs(x, 2, 30, 2, 70, 5, BLUE, 2, 100);
        wheelIs(x, 3, 30, 2, 70, 5, BLUE, 2, 100);
        monkIs(x, BLUE, 9);
        Check.due("a rest", x.pass(1), 0);
        monkIs(x, 0, 9);
        Check.due("turning 0 and 1", x.pass(1), 0);
        wheelIs(x, 0, 42, 0, 66, 1, BLUE, 8, -1);
        wheelIs(x, 1, 42, 0, 66, 1, BLUE, 5, 100);
        wheelIs(x, 2, 42, 2, 66, 7, BLUE, 4, 100);
        wheelIs(x, 3, 42, 2, 66, 7, BLUE, 4, 100);
        monkIs(x, BLUE, 1);
        Check.due("turning 2 and 3 on their 7th idle day", x.pass(1), 0);
        wheelIs(x, 0, 48, 0, 64, 2, BLUE, 9, -1);
        wheelIs(x, 1, 48, 0, 64, 2, BLUE, 6, 100);
        wheelIs(x, 2, 48, 2, 64, 1, BLUE, 5, 100);
        wheelIs(x, 3, 48, 2, 64, 1, BLUE, 5, 100);
        monkIs(x, BLUE, 9);
    }

    /** The wheel 1 is sold, a black mould comes, a new wheel, and a damp of 8: 1 less water a day. */
    private static CheeseRota changedAbbey() {
        CheeseRota x = abbey();
        Check.due("losses of 8 days", x.pass(8), 0);
        Check.due("48, blue of 6, a water of 64", x.sell(1), 54);
        Check.due("the mould before", x.infect(2, BLACK), BLUE);
        Check.due("the new wheel", x.make(0, 5), 4);
        Check.due("from the place 9", x.carry(3, 0, 6), 9);
        Check.due("as they were before", x.air(0, 6, 8), 65);
        return x;
    }

    private static void theNextWeekTold() {
        CheeseRota x = changedAbbey();
        lookAheadOfTheNextWeek(x);
        Check.due("a rest, and a leap from behind", x.pass(1), 0);
        wheelIs(x, 0, 54, 0, 63, 3, BLUE, 9, -1);
        wheelIs(x, 2, 54, 2, 63, 2, BLACK, 3, -1);
        wheelIs(x, 3, 54, 2, 63, 2, BLUE, 7, 100);
        wheelIs(x, 4, 6, 0, 79, 1, BLUE, 3, 3);
        monkIs(x, 0, 9);
        Check.due("salting 0 and 2", x.pass(1), 0);
        wheelIs(x, 0, 60, 2, 62, 4, BLUE, 9, -1);
        wheelIs(x, 2, 60, 4, 62, 3, BLACK, 5, -1);
        monkIs(x, BLUE, 4);
        Check.due("turning 4 and 3", x.pass(1), 0);
        wheelIs(x, 3, 66, 2, 61, 1, BLUE, 9, 100);
        wheelIs(x, 4, 18, 0, 77, 1, BLUE, 7, 3);
        monkIs(x, BLUE, 6);
        Check.due("washing 0 and 2", x.pass(1), 0);
        wheelIs(x, 0, 72, 2, 60, 6, BLUE, 8, -1);
        wheelIs(x, 2, 72, 4, 60, 5, BLACK, 6, -1);
        monkIs(x, BLACK, 4);
        Check.due("a rest", x.pass(1), 0);
        wheelIs(x, 2, 78, 4, 59, 6, BLACK, 8, -1);
        monkIs(x, 0, 4);
        Check.due("turning 4 and 3; 2 is lost", x.pass(1), 1);
        wheelIs(x, 0, 81, 2, 58, 8, BLUE, 9, -1);
        wheelIs(x, 1, 48, 0, 64, 2, BLUE, 6, 100);
        wheelIs(x, 2, 84, 4, 58, 7, BLACK, 9, -1);
        wheelIs(x, 3, 84, 2, 58, 1, BLUE, 9, 100);
        wheelIs(x, 4, 36, 0, 74, 1, BLUE, 9, 3);
        monkIs(x, BLUE, 6);
        lookBehindTheNextWeek(x);
    }

    private static void lookAheadOfTheNextWeek(CheeseRota x) {
        long before = x.digest();
        Check.due("lost in 5 days", x.foresee(5, 0), 0);
        Check.due("lost in 6 days", x.foresee(6, 0), 1);
        Check.due("mouldy in 5 days", x.foresee(5, 1), 4);
        Check.due("mouldy in 6 days", x.foresee(6, 1), 3);
        Check.due("worth in 6 days", x.foresee(6, 2), 63 + 66 + 2);
        Check.due("the cellar for the wheel 0, the only one", x.advise(0, 6), 0);
        Check.due("the cellar for the sold wheel", x.advise(1, 6), -1);
        Check.due("the best day of the sold wheel", x.best(1), -1);
        Check.due("digest behind looking ahead", x.digest(), before);
    }

    private static void lookBehindTheNextWeek(CheeseRota x) {
        int[] due = {14, 1, 5, 3, 1, 1, 3, 54, 1};
        for (int what = 0; what < due.length; what++) {
            Check.due("at last count(" + what + ")", x.count(what), due[what]);
        }
        int[] fates = {0, 1, 2, 0, 0};
        int[] places = {0, -1, -1, 6, 5};
        int[] worths = {63, 54, 26, 66, 2};
        for (int wheel = 0; wheel <= 4; wheel++) {
            Check.due("at last wheel(" + wheel + ", 0)", x.wheel(wheel, 0), fates[wheel]);
            Check.due("at last wheel(" + wheel + ", 1)", x.wheel(wheel, 1), places[wheel] < 0 ? -1 : 0);
            Check.due("at last wheel(" + wheel + ", 2)", x.wheel(wheel, 2), places[wheel]);
            Check.due("at last wheel(" + wheel + ", 10)", x.wheel(wheel, 10), worths[wheel]);
        }
        int[] board = {0, -1, -1, -1, -1, 4, 3, -1, -1, -1};
        for (int place = 0; place <= 9; place++) {
            Check.due("at last at(0, " + place + ")", x.at(0, place), board[place]);
        }
        Check.due("at last the wheels in the cellar", x.cellar(0, 2), 3);
        Check.due("at last those with a mould", x.cellar(0, 3), 3);
        Check.due("at last the mean", x.mean(), 131 / 3.0);
        Check.due("at last the digest", x.digest(), digestOf(
            14, 1, 5, 3, 1, 1, 3, 54, 1,
            6, 8, 3, 3,
            0, 0, 0, 81, 2, 58, 8, 2, 9, -1, 63,
            1, -1, -1, 48, 0, 64, 2, 2, 6, 100, 54,
            2, -1, -1, 84, 4, 58, 7, 3, 9, -1, 26,
            0, 0, 6, 84, 2, 58, 1, 2, 9, 100, 66,
            0, 0, 5, 36, 0, 74, 1, 2, 9, 3, 2,
            0, 2, 2, 6, 1,
            1, 0, 2, 1, 3, 0, 1));
    }

    private static long digestOf(int... numbers) {
        long d = 937;
        for (int x : numbers) {
            d = d * 31 + x;
        }
        return d;
    }

    // ---- runs of many calls

    private static int leapt = 0;
    private static int carried = 0;
    private static int lostByBlackMould = 0;
    private static int lostWithoutWater = 0;
    private static int sold = 0;
    private static int mouldyHands = 0;

    /** The runs would show little if nothing happened in them: what did is counted. */
    private static void whatIsThereBehindRuns() {
        for (int run = 0; run < RUNS; run++) {
            Script script = new Script(run, 40 + run % (CALLS_AHEAD_OF_A_LOOK_ROUND - 39));
            CheeseRota x = new CheeseRota();
            Oracle o = new Oracle();
            for (Script.Call call : script.calls()) {
                String told = "run " + run + ": " + call;
                String due = Script.answer(() -> call.on(o));
                String answered = Script.answer(() -> call.on(x));
                Check.isTrue(told + " answered " + answered + ", due is " + due, answered.equals(due));
            }
            lookRound("run " + run + ": ", x, o);
            countWhatHappened(o);
        }
        Check.isTrue("moulds leapt in the runs: " + leapt, leapt >= RUNS);
        Check.isTrue("moulds were carried in the runs: " + carried, carried >= RUNS);
        Check.isTrue("black mould took wheels in the runs: " + lostByBlackMould, lostByBlackMould >= RUNS);
        Check.isTrue("dryness took wheels in the runs: " + lostWithoutWater, lostWithoutWater >= RUNS);
        Check.isTrue("wheels were sold in the runs: " + sold, sold >= RUNS / 2);
        Check.isTrue("monks had a mould on the hands in the runs: " + mouldyHands, mouldyHands >= RUNS / 4);
    }

    private static void lookRound(String told, CheeseRota x, Oracle o) {
        for (int what = 0; what <= 8; what++) {
            Check.due(told + "count(" + what + ")", x.count(what), o.count(what));
        }
        for (int cellar = 0; cellar < o.count(1); cellar++) {
            for (int what = 0; what <= 3; what++) {
                Check.due(told + "cellar(" + cellar + ", " + what + ")", x.cellar(cellar, what), o.cellar(cellar, what));
            }
            for (int place = 0; place <= 9; place++) {
                Check.due(told + "at(" + cellar + ", " + place + ")", x.at(cellar, place), o.at(cellar, place));
            }
        }
        for (int wheel = 0; wheel < o.count(2); wheel++) {
            for (int what = 0; what <= 10; what++) {
                Check.due(told + "wheel(" + wheel + ", " + what + ")", x.wheel(wheel, what), o.wheel(wheel, what));
            }
        }
        for (int monk = 0; monk < o.count(8); monk++) {
            for (int what = 0; what <= 4; what++) {
                Check.due(told + "monk(" + monk + ", " + what + ")", x.monk(monk, what), o.monk(monk, what));
            }
        }
        Check.due(told + "mean()", x.mean(), o.mean());
        Check.due(told + "digest()", x.digest(), o.digest());
    }

    private static void countWhatHappened(Oracle o) {
        for (int wheel = 0; wheel < o.count(2); wheel++) {
            int source = o.wheel(wheel, 9);
            boolean isLost = o.wheel(wheel, 0) == 2;
            leapt += source >= 0 && source < 100 ? 1 : 0;
            carried += source >= 100 ? 1 : 0;
            lostWithoutWater += isLost && o.wheel(wheel, 5) == 0 ? 1 : 0;
            lostByBlackMould += isLost && o.wheel(wheel, 5) > 0 ? 1 : 0;
        }
        sold += o.count(4);
        for (int monk = 0; monk < o.count(8); monk++) {
            mouldyHands += o.monk(monk, 2) > 0 ? 1 : 0;
        }
    }

    // ---- looking ahead

    private static int worthOfLying(CheeseRota x, int wheel) {
        return x.wheel(wheel, 0) == 0 ? x.wheel(wheel, 10) : 0;
    }

    private static int worthOfAllLying(CheeseRota x) {
        int sum = 0;
        int wheels = x.count(2);
        for (int wheel = 0; wheel < wheels; wheel++) {
            sum += worthOfLying(x, wheel);
        }
        return sum;
    }

    /** The days that best and foresee look at go by on a twin, on which nothing else is done. */
    private static void lookingAheadIsWhatComes() {
        for (int run = 0; run < RUNS; run++) {
            Script script = new Script(1000 + run, CALLS_AHEAD_OF_DAYS);
            CheeseRota asked = script.played();
            int wheels = asked.count(2);
            int wheel = wheels == 0 ? 0 : script.below(wheels);
            if (wheels > 0) {
                Check.due("run " + run + ": best(" + wheel + ")", asked.best(wheel), bestOfATwin(script, wheel));
            }
            int days = 1 + script.below(run % 2 == 0 ? 12 : 100);
            CheeseRota twin = script.played();
            twin.pass(days);
            String told = "run " + run + ": foresee(" + days;
            Check.due(told + ", 0)", asked.foresee(days, 0), twin.count(5));
            Check.due(told + ", 1)", asked.foresee(days, 1), twin.count(6));
            Check.due(told + ", 2)", asked.foresee(days, 2), worthOfAllLying(twin));
        }
    }

    private static int bestOfATwin(Script script, int wheel) {
        CheeseRota twin = script.played();
        if (twin.wheel(wheel, 0) != 0) {
            return -1;
        }
        int best = 0;
        int most = worthOfLying(twin, wheel);
        for (int days = 1; days <= 60; days++) {
            twin.pass(1);
            int worth = worthOfLying(twin, wheel);
            best = worth > most ? days : best;
            most = Math.max(worth, most);
        }
        return best;
    }

    /** To each cellar the wheel is carried on a twin of its own. */
    private static void adviceIsWhatComes() {
        int[] advised = new int[4];
        for (int run = 0; run < RUNS; run++) {
            Script script = new Script(2000 + run, CALLS_AHEAD_OF_DAYS);
            CheeseRota asked = script.played();
            int wheels = asked.count(2);
            for (int wheel = 0; wheel < wheels; wheel += 5) {
                int days = 1 + script.below(40);
                int answered = asked.advise(wheel, days);
                Check.due("run " + run + ": advise(" + wheel + ", " + days + ")", answered,
                    adviceOfTwins(script, wheel, days));
                if (answered >= 0) {
                    advised[answered]++;
                }
            }
        }
        for (int cellar = 0; cellar <= 3; cellar++) {
            Check.isTrue("advice to the cellar " + cellar + ": " + advised[cellar], advised[cellar] >= RUNS / 20);
        }
    }

    private static int adviceOfTwins(Script script, int wheel, int days) {
        int best = -1;
        int most = -1;
        int cellars = script.played().count(1);
        for (int cellar = 0; cellar < cellars; cellar++) {
            CheeseRota twin = script.played();
            if (twin.wheel(wheel, 0) != 0) {
                return -1;
            }
            if (twin.wheel(wheel, 1) == cellar || isCarriedToTheFirstFreePlace(twin, wheel, cellar)) {
                twin.pass(days);
                int worth = worthOfLying(twin, wheel);
                best = worth > most ? cellar : best;
                most = Math.max(worth, most);
            }
        }
        return best;
    }

    private static boolean isCarriedToTheFirstFreePlace(CheeseRota x, int wheel, int cellar) {
        for (int place = 0; place <= 9; place++) {
            if (x.at(cellar, place) == -1) {
                x.carry(wheel, cellar, place);
                return true;
            }
        }
        return false;
    }

    /** Beside each call one that looks ahead: 120 calls and 360 more, and what is told stays the same. */
    private static void lookingAheadChangesNothing() {
        for (int run = 0; run < RUNS / 4; run++) {
            Script script = new Script(3000 + run, 120);
            List<Script.Call> calls = script.calls();
            CheeseRota x = new CheeseRota();
            CheeseRota without = new CheeseRota();
            for (Script.Call call : calls) {
                String due = Script.answer(() -> call.on(without));
                String answered = Script.answer(() -> call.on(x));
                Check.isTrue("run " + run + ": " + call + " answered " + answered + ", without looking ahead "
                    + due, answered.equals(due));
                long before = x.digest();
                lookAhead(script, x);
                Check.due("run " + run + ": digest() behind looking ahead", x.digest(), before);
            }
            Check.due("run " + run + ": the digest at last", x.digest(), without.digest());
            Check.due("run " + run + ": the mean at last", x.mean(), without.mean());
        }
    }

    private static void lookAhead(Script script, CheeseRota x) {
        int wheel = script.below(12);
        int days = 1 + script.below(42);
        switch (script.below(3)) {
            case 0 -> Script.answer(() -> x.best(wheel));
            case 1 -> Script.answer(() -> x.advise(wheel, days));
            default -> Script.answer(() -> x.foresee(days, wheel % 4));
        }
    }
}
