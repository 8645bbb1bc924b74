import java.util.function.LongSupplier;

/** Promises 16 to 18, what is not refused: best, foresee, advise. */
public final class AheadTest {
    public static void main(String[] args) {
        Check.sentencesOf(AheadTest.class);
    }

    /** The call answers this, and the digest is as before. */
    private static void due(CheeseRota x, String what, LongSupplier call, long want) {
        long before = x.digest();
        Check.due(what, call.getAsLong(), want);
        Check.due("digest() behind " + what, x.digest(), before);
    }

    // ---- best

    @Sentence(under = "Promise 16", words =
        "Returns behind how many days, 0 to 60, it is worth the most, if nothing is done")
    private static void best() {
        CheeseRota x = Dairies.oneCellar(9, 0, 0);
        // behind 8 days: ripeness 67 and a water of 40; behind 9: 71 - 5
        due(x, "best", () -> x.best(0), 8);
        x.pass(3);
        due(x, "best, 3 days later", () -> x.best(0), 5);
        x.pass(4);
        due(x, "best on the day ahead of it", () -> x.best(0), 1);
        x.pass(1);
        due(x, "best on its day", () -> x.best(0), 0);
        x.pass(1);
        due(x, "best on the day behind it", () -> x.best(0), 0);
    }

    @Sentence(under = "Promise 16", words = "behind how many days, 0 to 60")
    private static void bestBehindAtMost60Days() {
        CheeseRota x = Dairies.oneCellar(2, 9, 0);
        // 7 days of 2, then 1 a day: a ripeness of 100 on the day 93
        due(x, "best far ahead", () -> x.best(0), 60);
        x.pass(32);
        due(x, "best, which would come in 61 days", () -> x.best(0), 60);
        x.pass(1);
        due(x, "best, which comes in 60 days", () -> x.best(0), 60);
        x.pass(1);
        due(x, "best, which comes in 59 days", () -> x.best(0), 59);
        x.pass(58);
        due(x, "best, which comes in 1 day", () -> x.best(0), 1);
        x.pass(1);
        due(x, "best, which is there", () -> x.best(0), 0);
    }

    @Sentence(under = "Promise 16", words = "if nothing is done")
    private static void bestWhileTheMonksGoOn() {
        CheeseRota x = Dairies.oneCellar(9, 0, 0);
        due(x, "best without a monk", () -> x.best(0), 8);
        Dairies.hire(x, 0, 1, Dairies.TURN);
        // behind 11 days: 99 and a water of 25; behind 12: 100 and 20
        due(x, "best when it is turned each day", () -> x.best(0), 11);
        Dairies.setAllDays(x, 0, Dairies.REST);
        due(x, "best when the monk rests", () -> x.best(0), 8);
    }

    @Sentence(under = "Promise 16", words = "of several the least")
    private static void bestOfSeveralTheLeast() {
        CheeseRota x = Dairies.oneCellar(1, 9, 0);
        due(x, "best of a worth of 0 on each day", () -> x.best(0), 0);
        CheeseRota ripe = Dairies.oneCellar(9, 9, 0);
        ripe.pass(15);
        // ripeness 95, then 99, 100, 100, ..
        due(ripe, "best when it stays as it is behind 2 days", () -> ripe.best(0), 2);
        ripe.pass(2);
        due(ripe, "best when it stays as it is", () -> ripe.best(0), 0);
        CheeseRota blue = Dairies.oneCellar(9, 9, 0);
        blue.pass(30);
        blue.infect(0, 2);
        // growth 1, 3, 5, 7, ..: worth 60, 90, 90, 60, ..
        due(blue, "best when it is the same on 2 days", () -> blue.best(0), 1);
    }

    @Sentence(under = "Promise 16", words = "-1 if it lies in no cellar")
    private static void bestInNoCellar() {
        Check.changesNothing(Dairies::small, "best of one that lies", x -> Math.min(x.best(0), 0), 0);
        Check.changesNothing(Dairies::small, "best of a sold one", x -> x.best(1), -1);
        Check.changesNothing(Dairies::small, "best of a lost one", x -> x.best(2), -1);
        Check.changesNothing(Dairies::full, "best of a sold one", x -> x.best(10), -1);
        Check.changesNothing(Dairies::full, "best of a lost one", x -> x.best(16), -1);
    }

    /** A wheel of a ripeness of 60 and a water of 5, worth 25, that is lost on the next day. */
    private static CheeseRota almostDry() {
        CheeseRota x = Dairies.oneCellar(4, 0, 0);
        Dairies.hire(x, 0, 1, Dairies.TURN);
        x.pass(15);
        Check.due("ripeness", x.wheel(0, 3), 60);
        Check.due("worth", x.wheel(0, 10), 25);
        x.air(0, 9, 0);
        return x;
    }

    @Sentence(under = "Promise 16", words = "(one that is lost is worth 0; nothing is changed)")
    private static void bestOfOneThatWillBeLost() {
        CheeseRota x = almostDry();
        due(x, "best of one that is lost on the next day", () -> x.best(0), 0);
        x.pass(1);
        Check.due("what it tells as its worth, when it is lost", x.wheel(0, 10), 29);
        CheeseRota y = Dairies.oneCellar(1, 0, 0);
        y.pass(15);
        due(y, "best of one that is worth 0 and lost then", () -> y.best(0), 0);
    }

    @Sentence(under = "Promise 16", words = "nothing is changed")
    private static void bestChangesNothing() {
        int[] due = new int[24];
        CheeseRota asked = Dairies.full();
        for (int wheel = 0; wheel <= 23; wheel++) {
            due[wheel] = asked.best(wheel);
        }
        for (int number = 0; number <= 23; number++) {
            int wheel = number;
            Check.changesNothing(Dairies::full, "best(" + wheel + ")", x -> x.best(wheel), due[wheel]);
        }
    }

    // ---- foresee

    @Sentence(under = "Promise 17", words =
        "0 wheels that are lost then, 1 wheels in cellars with a mould then, 2 the worth of all wheels in "
        + "cellars then, added")
    private static void foresee() {
        CheeseRota x = new CheeseRota();
        x.build(9, 0);
        x.build(9, 2);
        x.make(0, 0);
        x.make(1, 0);
        x.make(1, 5);
        x.infect(1, 1);
        due(x, "lost behind 15 days", () -> x.foresee(15, 0), 0);
        due(x, "lost behind 16 days", () -> x.foresee(16, 0), 1);
        due(x, "lost behind 100 days", () -> x.foresee(100, 0), 3);
        due(x, "mouldy behind 1 day", () -> x.foresee(1, 1), 1);
        due(x, "mouldy behind 19 days", () -> x.foresee(19, 1), 1);
        due(x, "mouldy behind 20 days, all lost", () -> x.foresee(20, 1), 0);
        // behind 10 days: 75 - 10 of the first, 85 and 75 of the others
        due(x, "worth behind 10 days", () -> x.foresee(10, 2), 65 + 85 + 75);
        // behind 15 days: 95 and a water of 5; behind 16 days it is lost
        due(x, "worth behind 15 days", () -> x.foresee(15, 2), 60 + 85 + 75);
        due(x, "worth behind 16 days", () -> x.foresee(16, 2), 85 + 75);
        x.sell(2);
        due(x, "worth without the sold one", () -> x.foresee(10, 2), 65 + 85);
        due(x, "lost without the sold one", () -> x.foresee(100, 0), 2);
    }

    @Sentence(under = "Promise 17", words = "0 wheels that are lost then")
    private static void foreseeCountsThoseThatWereLostBefore() {
        CheeseRota x = Dairies.oneCellar(0, 0, 0);
        x.pass(10);
        x.make(0, 1);
        due(x, "lost behind 6 days", () -> x.foresee(6, 0), 1);
        x.pass(6);
        due(x, "lost behind 9 days more", () -> x.foresee(9, 0), 1);
        due(x, "lost behind 10 days more", () -> x.foresee(10, 0), 2);
    }

    @Sentence(under = "Promise 17", words = "- `days`: how many, 1 to 100")
    private static void foreseeIsWhatComes() {
        for (int days = 1; days <= 100; days++) {
            CheeseRota x = Dairies.full();
            int lost = x.foresee(days, 0);
            int mouldy = x.foresee(days, 1);
            int worth = x.foresee(days, 2);
            x.pass(days);
            Check.due("lost behind " + days + " days", lost, x.count(5));
            Check.due("mouldy behind " + days + " days", mouldy, x.count(6));
            Check.due("worth behind " + days + " days", worth, worthOfLyingOnes(x));
        }
    }

    private static int worthOfLyingOnes(CheeseRota x) {
        int sum = 0;
        int wheels = x.count(2);
        for (int wheel = 0; wheel < wheels; wheel++) {
            sum += x.wheel(wheel, 0) == 0 ? x.wheel(wheel, 10) : 0;
        }
        return sum;
    }

    @Sentence(under = "Promise 17", words = "if nothing is done")
    private static void foreseeWhileTheMonksGoOn() {
        for (int day = 0; day <= 6; day++) {
            CheeseRota x = Dairies.salted(12, 0, 9, 0);
            x.infect(0, 1);
            // on its salt the mould grows not, so that one washing takes it away
            due(x, "mouldy behind 7 days without a washing", () -> x.foresee(7, 1), 1);
            x.setRota(0, day, Dairies.WASH);
            due(x, "mouldy behind 7 days with a washing on the day " + day, () -> x.foresee(7, 1), 0);
            int untilThen = Math.floorMod(day - x.count(0), 7);
            if (untilThen > 0) {
                due(x, "mouldy on the day ahead of it", () -> x.foresee(untilThen, 1), 1);
            }
            due(x, "mouldy on the day behind it", () -> x.foresee(untilThen + 1, 1), 0);
        }
    }

    @Sentence(under = "Promise 17", words = "Returns this, if nothing is done (nothing is changed).")
    private static void foreseeChangesNothing() {
        for (int asked = 0; asked <= 2; asked++) {
            int what = asked;
            for (int days = 1; days <= 100; days += 33) {
                int gone = days;
                int due = Dairies.full().foresee(gone, what);
                Check.changesNothing(Dairies::full, "foresee(" + gone + ", " + what + ")",
                    x -> x.foresee(gone, what), due);
            }
            Check.changesNothing(Dairies::empty, "foresee of nothing", x -> x.foresee(1, what), 0);
            Check.changesNothing(Dairies::empty, "foresee of nothing", x -> x.foresee(100, what), 0);
        }
    }

    // ---- advise

    @Sentence(under = "Promise 18", words =
        "Looks for the cellar where a wheel had best lie from now on")
    private static void adviseByWarmth() {
        CheeseRota x = new CheeseRota();
        x.build(4, 2);
        x.build(9, 2);
        x.build(6, 2);
        x.make(0, 5);
        due(x, "advise to the warmest", () -> x.advise(0, 10), 1);
        x.air(1, 0, 0);
        due(x, "advise to the next warm", () -> x.advise(0, 10), 2);
        x.air(0, 7, 2);
        due(x, "advise to its own", () -> x.advise(0, 10), 0);
        x.build(8, 2);
        due(x, "advise to the 4th", () -> x.advise(0, 10), 3);
    }

    @Sentence(under = "Promise 18", words = "(in its own one it stays at its place")
    private static void adviseInItsOwnAtItsPlace() {
        CheeseRota x = Dairies.oneCellar(9, 9, 5, 6);
        x.build(9, 9);
        x.pass(10);
        x.infect(1, 1);
        // in its own it catches the white mould, at the place 0 it would not
        due(x, "advise beside a white one", () -> x.advise(0, 4), 0);
        x.infect(1, 3);
        due(x, "advise beside a black one", () -> x.advise(0, 3), 1);
        x.carry(1, 0, 1);
        x.infect(1, 1);
        // at the place 0 it would catch the white mould
        x.make(1, 1);
        x.infect(2, 1);
        due(x, "advise far from a white one", () -> x.advise(0, 4), 1);
        x.infect(1, 3);
        x.infect(2, 3);
        due(x, "advise far from a black one", () -> x.advise(0, 3), 0);
    }

    @Sentence(under = "Promise 18", words = "in another one it is carried to the first free place")
    private static void adviseToTheFirstFreePlace() {
        for (int first = 0; first <= 8; first++) {
            CheeseRota x = new CheeseRota();
            x.build(9, 9);
            x.build(9, 9);
            for (int place = 0; place < first; place++) {
                x.make(0, place);
            }
            x.make(0, first + 1);
            int wheel = x.make(1, 5);
            x.pass(10);
            x.infect(first, 1);
            due(x, "advise to " + first + ", beside a white one", () -> x.advise(wheel, 4), 0);
            x.infect(first, 3);
            due(x, "advise to " + first + ", beside a black one", () -> x.advise(wheel, 3), 1);
            if (first <= 7) {
                x.carry(first, 0, first + 2);
                due(x, "advise to " + first + ", not beside a black one", () -> x.advise(wheel, 3), 0);
            }
        }
    }

    @Sentence(under = "Promise 18", words = "such a one without a free place is left out")
    private static void adviseLeavesOutFullOnes() {
        CheeseRota x = new CheeseRota();
        x.build(9, 5);
        x.build(3, 5);
        for (int place = 0; place <= 9; place++) {
            x.make(0, place);
            x.make(1, place);
        }
        due(x, "advise when the better one is full", () -> x.advise(19, 20), 1);
        due(x, "advise when its own is full", () -> x.advise(0, 20), 0);
        x.sell(18);
        due(x, "advise when the place 9 is free", () -> x.advise(19, 20), 0);
        x.make(0, 9);
        due(x, "advise when it is full again", () -> x.advise(19, 20), 1);
        x.air(0, 0, 5);
        due(x, "advise when its own is full and worse", () -> x.advise(0, 20), 0);
        x.sell(19);
        due(x, "advise when the place 9 of the other one is free", () -> x.advise(0, 20), 1);
    }

    @Sentence(under = "Promise 18", words = "such a one without a free place is left out")
    private static void adviseLeavesOutAFullOneThoughItIsWorth0() {
        CheeseRota x = Dairies.withWheels(11);
        due(x, "advise of one worth 0, when the first cellar is full", () -> x.advise(10, 1), 1);
        x.sell(9);
        due(x, "advise of one worth 0, when the first cellar has a place", () -> x.advise(10, 1), 0);
    }

    @Sentence(under = "Promise 18", words = "so that it is worth the most behind so many days")
    private static void adviseByDays() {
        CheeseRota x = new CheeseRota();
        x.build(9, 0);
        x.build(2, 5);
        x.make(1, 0);
        x.pass(10);
        // ripeness 17, water 60, 10 idle days: in 0 it gains 4 and loses 5 a day, in 1 1 and 2
        due(x, "advise for 5 days: 32 and 12", () -> x.advise(0, 5), 0);
        due(x, "advise for 11 days: 26 and 26", () -> x.advise(0, 11), 0);
        due(x, "advise for 12 days: lost and 25", () -> x.advise(0, 12), 1);
        due(x, "advise for 40 days: lost in both", () -> x.advise(0, 40), 0);
    }

    @Sentence(under = "Promise 18", words = "behind so many days")
    private static void adviseWhileTheMonksGoOn() {
        CheeseRota x = new CheeseRota();
        x.build(3, 9);
        x.build(2, 9);
        x.make(0, 0);
        x.pass(10);
        // ripeness 24, 10 idle days: in 0 it gains 1 a day, in 1, where it is turned, 2
        due(x, "advise without a monk", () -> x.advise(0, 20), 0);
        Dairies.hire(x, 1, 1, Dairies.TURN);
        due(x, "advise for 8 days: 0 and 0", () -> x.advise(0, 8), 0);
        due(x, "advise for 9 days: 0 and 2", () -> x.advise(0, 9), 1);
        due(x, "advise for 40 days: 24 and 60", () -> x.advise(0, 40), 1);
    }

    @Sentence(under = "Promise 18", words = "Returns this cellar, of several the one with the smallest number")
    private static void adviseOfSeveral() {
        for (int own = 0; own <= 3; own++) {
            CheeseRota x = new CheeseRota();
            for (int cellar = 0; cellar <= 3; cellar++) {
                x.build(5, 5);
            }
            x.make(own, 0);
            for (int best = 0; best <= 3; best++) {
                int cellar = best;
                due(x, "advise from " + own + " to the first of those alike", () -> x.advise(0, 20), cellar);
                due(x, "advise from " + own + " when it is worth 0 in all", () -> x.advise(0, 1), 0);
                x.air(cellar, 0, 5);
            }
            due(x, "advise from " + own + " when it is worth 0 in all", () -> x.advise(0, 40), 0);
        }
    }

    @Sentence(under = "Promise 18", words = "-1 if it lies in no cellar")
    private static void adviseInNoCellar() {
        for (int days = 1; days <= 40; days += 39) {
            int gone = days;
            Check.changesNothing(Dairies::small, "advise of one that lies", x -> Math.min(x.advise(0, gone), 0), 0);
            Check.changesNothing(Dairies::small, "advise of a sold one", x -> x.advise(1, gone), -1);
            Check.changesNothing(Dairies::small, "advise of a lost one", x -> x.advise(2, gone), -1);
            Check.changesNothing(Dairies::full, "advise of a sold one", x -> x.advise(10, gone), -1);
            Check.changesNothing(Dairies::full, "advise of a lost one", x -> x.advise(16, gone), -1);
        }
    }

    @Sentence(under = "Promise 18", words = "(one that is lost is worth 0; nothing is changed)")
    private static void adviseOfOneThatWillBeLost() {
        CheeseRota x = almostDry();
        x.build(0, 9);
        // in its own it is lost, with a worth of 29 as it was; in the other one it is worth 25
        due(x, "advise of one that is lost in its own", () -> x.advise(0, 1), 1);
        x.air(1, 0, 0);
        due(x, "advise of one that is lost in both", () -> x.advise(0, 1), 0);
    }

    @Sentence(under = "Promise 18", words = "nothing is changed")
    private static void adviseChangesNothing() {
        CheeseRota asked = Dairies.full();
        for (int number = 0; number <= 23; number++) {
            int wheel = number;
            int due = asked.advise(wheel, 30);
            Check.changesNothing(Dairies::full, "advise(" + wheel + ", 30)", x -> x.advise(wheel, 30), due);
        }
    }
}
