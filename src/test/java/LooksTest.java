import java.math.BigInteger;

/** Promises 10 to 14, 19 and 20, what is not refused: wheel, cellar, at, monk, count, mean, digest. */
public final class LooksTest {
    public static void main(String[] args) {
        Check.sentencesOf(LooksTest.class);
    }

    private static void facts(String told, CheeseRota x, int wheel, int... due) {
        for (int what = 0; what < due.length; what++) {
            Check.due("wheel(" + wheel + ", " + what + ") of one " + told, x.wheel(wheel, what), due[what]);
        }
    }

    // ---- wheel

    @Sentence(under = "Promise 10", words =
        "0 0 in a cellar, 1 sold, 2 lost, 1 its cellar, 2 its place (1 and 2: -1 in no cellar), 3 its ripeness, "
        + "4 its salt, 5 its water, 6 its idle days, 7 its mould, 8 the growth of this")
    private static void wheel() {
        CheeseRota x = new CheeseRota();
        x.build(6, 5);
        x.build(4, 6);
        x.make(1, 4);
        x.make(0, 2);
        x.make(0, 3);
        x.infect(1, 2);
        facts("new", x, 1, 0, 0, 2, 0, 0, 80, 0, 2, 1, -1, 0);
        x.pass(6);
        // 6 days: ripeness 36, water 80 - 12, growth 7; its neighbour caught it on the fifth
        facts("with mould", x, 1, 0, 0, 2, 36, 0, 68, 6, 2, 7, -1, 8);
        facts("beside it", x, 2, 0, 0, 3, 36, 0, 68, 6, 2, 3, 1, 38);
        facts("in the other cellar", x, 0, 0, 1, 4, 24, 0, 68, 6, 0, 0, -1, 0);
        x.sell(2);
        facts("sold", x, 2, 1, -1, -1, 36, 0, 68, 6, 2, 3, 1, 38);
        x.infect(0, 3);
        Check.due("lost in 4 days", x.pass(4), 1);
        facts("lost", x, 0, 2, -1, -1, 24 + 4 + 2 * 3, 0, 60, 10, 3, 9, -1, 0);
    }

    @Sentence(under = "Promise 10", words = "(1 and 2: -1 in no cellar)")
    private static void wheelInNoCellar() {
        CheeseRota x = new CheeseRota();
        x.build(0, 9);
        x.build(0, 0);
        x.make(0, 0);
        x.make(1, 9);
        facts("in the first cellar", x, 0, 0, 0, 0);
        facts("in the last cellar", x, 1, 0, 1, 9);
        x.sell(0);
        x.pass(15);
        facts("sold", x, 0, 1, -1, -1);
        facts("a day ahead of its loss", x, 1, 0, 1, 9);
        x.pass(1);
        facts("lost", x, 1, 2, -1, -1);
    }

    @Sentence(under = "Promise 10", words =
        "9 from where this came: a wheel, 100 + a monk, or -1 from nowhere, or without one, 10 its worth")
    private static void wheelTellsFromWhereTheMouldCame() {
        CheeseRota x = Dairies.oneCellar(0, 5, 0, 1);
        Check.due("without one", x.wheel(0, 9), -1);
        x.infect(0, 1);
        Check.due("from nowhere", x.wheel(0, 9), -1);
        x.pass(5);
        Check.due("from the wheel 0", x.wheel(1, 9), 0);
        x.infect(1, 0);
        Check.due("without one any more", x.wheel(1, 9), -1);
        CheeseRota y = Dairies.withWheels(24);
        y.air(2, 0, 5);
        y.infect(23, 1);
        y.pass(5);
        Check.due("from the wheel 23", y.wheel(22, 9), 23);
        for (int monk = 0; monk <= 3; monk++) {
            CheeseRota z = Dairies.oneCellar(0, 5, 0, 5);
            z.infect(0, 1);
            z.pass(3);
            for (int number = 0; number <= 3; number++) {
                z.hire(0, 2);
            }
            Dairies.setAllDays(z, monk, Dairies.TURN);
            z.pass(1);
            Check.due("from the monk " + monk, z.wheel(1, 9), 100 + monk);
            z.sell(1);
            Check.due("of a sold one", z.wheel(1, 9), 100 + monk);
        }
    }

    @Sentence(under = "Promise 10", words = "or -1 from nowhere, or without one")
    private static void washedOneHasAMouldFromNowhere() {
        CheeseRota x = Dairies.oneCellar(0, 5, 0, 1);
        x.infect(0, 1);
        x.pass(5);
        Check.due("from the wheel 0", x.wheel(1, 9), 0);
        x.sell(0);
        x.pass(2);
        Dairies.hire(x, 0, 1, Dairies.WASH);
        Check.due("growth ahead of the washing", x.wheel(1, 8), 4);
        x.pass(1);
        Check.due("growth behind the washing", x.wheel(1, 8), 2);
        Check.due("from where, when some of it is left", x.wheel(1, 9), 0);
        x.pass(1);
        Check.due("growth behind the second washing", x.wheel(1, 8), 0);
        Check.due("from where, when none of it is left", x.wheel(1, 9), -1);
    }

    @Sentence(under = "Promise 10", words = "Returns this (of one that was sold or lost as it was).")
    private static void wheelThatWasSoldOrLost() {
        CheeseRota x = new CheeseRota();
        x.build(9, 5);
        x.build(9, 0);
        x.make(0, 0);
        x.make(0, 1);
        x.make(1, 9);
        x.infect(0, 2);
        x.pass(6);
        x.sell(0);
        // of the wheel 1: the mould leapt on the fifth day
        x.sell(1);
        x.pass(10);
        for (int days = 0; days <= 1; days++) {
            facts("sold", x, 0, 1, -1, -1, 54, 0, 68, 6, 2, 7, -1, 26);
            facts("sold", x, 1, 1, -1, -1, 54, 0, 68, 6, 2, 3, 0, 56);
            facts("lost without water", x, 2, 2, -1, -1, 99, 0, 0, 16, 0, 0, -1, 59);
            x.pass(100);
        }
    }

    @Sentence(under = "Promise 10", words = "(of one that was sold or lost as it was)")
    private static void wheelThatIsLostByACaughtMould() {
        CheeseRota x = Dairies.oneCellar(9, 5, 0, 1);
        x.infect(0, 3);
        Check.due("lost in 8 days", x.pass(8), 1);
        facts("lost by a mould from nowhere", x, 0, 2, -1, -1, 67, 0, 64, 8, 3, 9, -1, 3);
        // it leapt on the fifth day
        Check.due("lost in 4 days more", x.pass(4), 1);
        for (int days = 0; days <= 1; days++) {
            facts("lost by a mould from the wheel 0", x, 1, 2, -1, -1, 83, 0, 56, 12, 3, 9, 0, 27);
            x.pass(100);
        }
    }

    // ---- cellar, at, monk, count

    @Sentence(under = "Promise 11", words = "0 its warmth, 1 its damp, 2 wheels in it, 3 those with a mould")
    private static void cellar() {
        CheeseRota x = new CheeseRota();
        x.build(3, 8);
        x.build(7, 1);
        x.make(0, 0);
        x.make(0, 9);
        x.make(1, 5);
        x.infect(1, 2);
        x.infect(2, 3);
        int[][] due = {{3, 8, 2, 1}, {7, 1, 1, 1}};
        for (int number = 0; number < 2; number++) {
            for (int what = 0; what < 4; what++) {
                Check.due("cellar(" + number + ", " + what + ")", x.cellar(number, what), due[number][what]);
            }
        }
        x.carry(1, 1, 0);
        Check.due("wheels behind a carrying", x.cellar(1, 2), 2);
        Check.due("mouldy ones behind a carrying", x.cellar(1, 3), 2);
        Check.due("mouldy ones where it lay", x.cellar(0, 3), 0);
        x.sell(2);
        Check.due("wheels behind a sale", x.cellar(1, 2), 1);
        Check.due("mouldy ones behind a sale", x.cellar(1, 3), 1);
        x.infect(1, 0);
        Check.due("mouldy ones behind the end of a mould", x.cellar(1, 3), 0);
    }

    @Sentence(under = "Promise 11", words = "2 wheels in it, 3 those with a mould")
    private static void cellarWithNoneAndFull() {
        CheeseRota x = Dairies.withCellars(1);
        Check.due("wheels in an empty one", x.cellar(0, 2), 0);
        Check.due("mouldy ones in an empty one", x.cellar(0, 3), 0);
        for (int place = 0; place <= 9; place++) {
            x.make(0, place);
            x.infect(place, 1);
            Check.due("wheels", x.cellar(0, 2), place + 1);
            Check.due("mouldy ones", x.cellar(0, 3), place + 1);
        }
        x.air(0, 0, 0);
        x.pass(16);
        Check.due("wheels when all are lost", x.cellar(0, 2), 0);
        Check.due("mouldy ones when all are lost", x.cellar(0, 3), 0);
    }

    @Sentence(under = "Promise 12", words = "Returns the wheel there, -1 for none.")
    private static void at() {
        CheeseRota x = new CheeseRota();
        x.build(0, 0);
        x.build(0, 9);
        x.make(1, 0);
        x.make(0, 9);
        for (int place = 0; place <= 9; place++) {
            Check.due("at(0, " + place + ")", x.at(0, place), place == 9 ? 1 : -1);
            Check.due("at(1, " + place + ")", x.at(1, place), place == 0 ? 0 : -1);
        }
        x.pass(16);
        Check.due("at the place of a lost one", x.at(0, 9), -1);
        Check.due("at the place of one not lost", x.at(1, 0), 0);
        x.sell(0);
        Check.due("at the place of a sold one", x.at(1, 0), -1);
    }

    @Sentence(under = "Promise 13", words =
        "0 the cellar, 1 on how many wheels this one works, 2 the mould on the hands")
    private static void monk() {
        CheeseRota x = Dairies.withCellars(2);
        x.air(1, 5, 5);
        x.make(1, 6);
        x.hire(1, 7);
        x.hire(0, 10);
        x.setRota(0, 0, 3);
        x.setRota(0, 6, 2);
        x.infect(0, 3);
        int[][] fresh = {{1, 7, 0, -1, 3}, {0, 10, 0, -1, 0}};
        for (int monk = 0; monk <= 1; monk++) {
            for (int what = 0; what <= 4; what++) {
                Check.due("monk(" + monk + ", " + what + ")", x.monk(monk, what), fresh[monk][what]);
            }
        }
        x.pass(1);
        x.infect(0, 3);
        x.pass(5);
        Check.due("hands of a resting one", x.monk(0, 2), 0);
        x.pass(1);
        Check.due("mould on the hands", x.monk(0, 2), 3);
        Check.due("mould on the other one's hands", x.monk(1, 2), 0);
    }

    @Sentence(under = "Promise 13", words =
        "3 the place where the wheel lay on which this one worked the latest time, -1 for none")
    private static void monkTellsTheLatestPlace() {
        for (int place = 0; place <= 9; place++) {
            CheeseRota x = Dairies.oneCellar(0, 9, place);
            x.hire(0, 1);
            x.pass(3);
            Check.due("latest place of one who rests", x.monk(0, 3), -1);
            Dairies.setAllDays(x, 0, Dairies.TURN);
            Check.due("latest place ahead of the work", x.monk(0, 3), -1);
            x.pass(1);
            Check.due("latest place", x.monk(0, 3), place);
            x.carry(0, 0, (place + 5) % 10);
            Check.due("latest place when the wheel was carried away", x.monk(0, 3), place);
            x.sell(0);
            x.pass(1);
            Check.due("latest place when there is nothing to do", x.monk(0, 3), place);
            Dairies.setAllDays(x, 0, Dairies.REST);
            x.pass(1);
            Check.due("latest place behind a rest", x.monk(0, 3), place);
        }
        CheeseRota y = Dairies.oneCellar(0, 9);
        Dairies.hire(y, 0, 10, Dairies.WASH);
        y.pass(1);
        Check.due("latest place without a wheel", y.monk(0, 3), -1);
    }

    @Sentence(under = "Promise 13", words = "4 the work of this day")
    private static void monkTellsTheWorkOfThisDay() {
        CheeseRota x = Dairies.withMonks(1);
        int[] rota = {3, 1, 0, 2, 0, 0, 1};
        for (int day = 0; day <= 6; day++) {
            x.setRota(0, day, rota[day]);
        }
        for (int day = 0; day <= 14; day++) {
            Check.due("work of the day " + day, x.monk(0, 4), rota[day % 7]);
            x.pass(1);
        }
    }

    @Sentence(under = "Promise 14", words =
        "0 the day, 1 cellars, 2 wheels, 3 those in cellars, 4 those that were sold, 5 those that are lost, "
        + "6 those in cellars with a mould, 7 the worth of all that were sold, added, 8 monks")
    private static void count() {
        CheeseRota x = new CheeseRota();
        x.build(9, 2);
        x.build(0, 0);
        x.make(0, 0);
        x.make(0, 5);
        x.make(0, 9);
        x.make(1, 0);
        x.hire(0, 1);
        x.pass(16);
        x.make(1, 1);
        x.infect(1, 2);
        x.infect(2, 1);
        // 7 days of 9 and 9 of 4: 99; water 80 - 64
        Check.due("worth", x.sell(0), 75);
        x.infect(4, 1);
        x.sell(2);
        int[] due = {16, 2, 5, 2, 2, 1, 2, 75 + 85, 1};
        for (int what = 0; what < due.length; what++) {
            Check.due("count(" + what + ")", x.count(what), due[what]);
        }
    }

    @Sentence(under = "Promise 14", words = "6 those in cellars with a mould")
    private static void countOfMouldyOnes() {
        CheeseRota x = Dairies.oneCellar(0, 2, 0, 4, 9);
        x.infect(0, 1);
        x.infect(1, 3);
        Check.due("mouldy ones in cellars", x.count(6), 2);
        x.sell(0);
        Check.due("mouldy ones, one sold", x.count(6), 1);
        x.pass(8);
        Check.due("mouldy ones, the other one lost", x.count(6), 0);
        Check.due("in cellars", x.count(3), 1);
    }

    // ---- mean, digest

    @Sentence(under = "Promise 19", words = "Returns the mean worth of all wheels in cellars; 0 if there are none.")
    private static void mean() {
        CheeseRota x = new CheeseRota();
        x.build(9, 2);
        x.build(0, 9);
        x.make(0, 0);
        x.pass(10);
        Check.due("mean of one", x.mean(), 75.0);
        x.make(1, 0);
        Check.due("mean of two", x.mean(), 37.5);
        x.make(1, 1);
        x.infect(0, 1);
        Check.due("mean of three", x.mean(), 85.0 / 3);
        x.sell(0);
        Check.due("mean without the sold one", x.mean(), 0.0);
    }

    @Sentence(under = "Promise 19", words = "0 if there are none")
    private static void meanOfNone() {
        Check.due("mean of an empty dairy", Dairies.empty().mean(), 0.0);
        Check.due("mean of cellars without wheels", Dairies.withCellars(4).mean(), 0.0);
        CheeseRota sold = Dairies.oneCellar(9, 2, 0, 5);
        sold.pass(10);
        sold.sell(0);
        Check.due("mean of the one that is left", sold.mean(), 75.0);
        sold.sell(1);
        Check.due("mean when all were sold", sold.mean(), 0.0);
        CheeseRota someLost = Dairies.oneCellar(9, 0, 0);
        someLost.build(9, 2);
        someLost.make(1, 0);
        someLost.pass(16);
        // ripeness 99, water 16
        Check.due("mean of the one that is not lost", someLost.mean(), 75.0);
        CheeseRota lost = Dairies.oneCellar(9, 0, 0, 5);
        lost.pass(15);
        // ripeness 63 + 32, water 5
        Check.due("mean a day ahead of the loss", lost.mean(), 60.0);
        lost.pass(1);
        Check.due("mean when all are lost", lost.mean(), 0.0);
    }

    /** The document's words with numbers that have no end, cut to 64 bits at the very end. */
    private static BigInteger digestWithoutAnEnd(CheeseRota x, int[][] rotas) {
        BigInteger d = BigInteger.valueOf(937);
        for (int what = 0; what <= 8; what++) {
            d = with(d, x.count(what));
        }
        for (int cellar = 0; cellar < x.count(1); cellar++) {
            for (int what = 0; what <= 3; what++) {
                d = with(d, x.cellar(cellar, what));
            }
        }
        for (int wheel = 0; wheel < x.count(2); wheel++) {
            for (int what = 0; what <= 10; what++) {
                d = with(d, x.wheel(wheel, what));
            }
        }
        for (int monk = 0; monk < x.count(8); monk++) {
            for (int what = 0; what <= 4; what++) {
                d = with(d, x.monk(monk, what));
            }
            for (int work : rotas[monk]) {
                d = with(d, work);
            }
        }
        return d;
    }

    private static BigInteger with(BigInteger d, int x) {
        return d.multiply(BigInteger.valueOf(31)).add(BigInteger.valueOf(x));
    }

    @Sentence(under = "Promise 20", words = "A number d starts with 937")
    private static void digestOfAnEmptyDairy() {
        long d = 937;
        for (int what = 0; what <= 8; what++) {
            d = d * 31;
        }
        Check.due("digest of a new object", Dairies.empty().digest(), d);
    }

    @Sentence(under = "Promise 20", words =
        "for each of the following numbers x, d becomes d * 31 + x, which wraps around as a 64-bit integer")
    private static void digestWrapsAround() {
        BigInteger most = BigInteger.valueOf(Long.MAX_VALUE);
        int[][] noRota = {};
        CheeseRota small = Dairies.empty();
        BigInteger exact = digestWithoutAnEnd(small, noRota);
        Check.isTrue("9 numbers stay below the wrapping", exact.compareTo(most) <= 0);
        Check.due("digest below the wrapping", small.digest(), exact.longValueExact());
        for (int cellars = 1; cellars <= 4; cellars++) {
            CheeseRota x = Dairies.withCellars(cellars);
            BigInteger far = digestWithoutAnEnd(x, noRota);
            Check.isTrue("13 numbers and more wrap around", far.compareTo(most) > 0);
            Check.due("digest that wraps around", x.digest(), far.longValue());
        }
    }

    @Sentence(under = "Promise 20", words =
        "what count() tells, in its order; for each cellar what cellar() tells, in its order; for each wheel "
        + "what wheel() tells, in its order; for each monk what monk() tells, in its order, and the work of "
        + "each day of the rota.")
    private static void digest() {
        int[][] rotas = {{1, 2, 3, 0, 1, 2, 3}, {3, 0, 0, 0, 0, 0, 2}};
        for (int days = 0; days <= 12; days++) {
            CheeseRota x = new CheeseRota();
            x.build(4, 7);
            Check.due("digest of a cellar", x.digest(), digestWithoutAnEnd(x, rotas).longValue());
            x.build(8, 3);
            x.make(0, 2);
            x.make(1, 3);
            x.make(1, 4);
            Check.due("digest with wheels", x.digest(), digestWithoutAnEnd(x, rotas).longValue());
            for (int monk = 0; monk < rotas.length; monk++) {
                x.hire(1 - monk, 2);
                for (int day = 0; day <= 6; day++) {
                    x.setRota(monk, day, rotas[monk][day]);
                }
            }
            x.infect(1, 3);
            Check.due("digest with monks", x.digest(), digestWithoutAnEnd(x, rotas).longValue());
            if (days > 0) {
                x.pass(days);
            }
            Check.due("digest behind " + days + " days", x.digest(), digestWithoutAnEnd(x, rotas).longValue());
            x.sell(0);
            Check.due("digest behind a sale", x.digest(), digestWithoutAnEnd(x, rotas).longValue());
        }
    }
}
