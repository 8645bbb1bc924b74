/** The bounds that the terms name for cellars, wheels, their worth, and monks. */
public final class TermsTest {
    private static final int WHITE = 1;
    private static final int BLUE = 2;
    private static final int BLACK = 3;

    public static void main(String[] args) {
        Check.sentencesOf(TermsTest.class);
    }

    // ---- numbers and days

    @Sentence(under = "Terms", words = "All numbers are whole, and / is cut towards 0.")
    private static void halvesAreCut() {
        int[] half = {0, 0, 1, 1, 2, 2, 3, 3, 4, 4};
        int[] less = {5, 4, 4, 3, 3, 2, 2, 1, 1, 0};
        for (int n = 0; n <= 9; n++) {
            CheeseRota x = Dairies.oneCellar(0, 9, 0);
            x.pass(7);
            x.air(0, n, n);
            x.pass(1);
            Check.due("ripeness by half of a warmth of " + n, x.wheel(0, 3), half[n]);
            Check.due("water with a damp of " + n, x.wheel(0, 5), 80 - less[n]);
        }
    }

    @Sentence(under = "Terms", words = "Time is told in days, from 0.")
    private static void daysAreToldFromZero() {
        CheeseRota x = Dairies.empty();
        Check.due("the first day", x.count(0), 0);
        x.pass(1);
        Check.due("the day behind it", x.count(0), 1);
    }

    // ---- cellars

    @Sentence(under = "Terms",
        words = "Cellars. There are at most 4, numbered from 0 in the order of their building")
    private static void cellarsAreAtMostFour() {
        CheeseRota x = Dairies.empty();
        for (int number = 0; number <= 3; number++) {
            Check.due("number of a cellar", x.build(number, 0), number);
            Check.due("cellars", x.count(1), number + 1);
        }
        for (int number = 0; number <= 3; number++) {
            Check.due("the warmth by which a cellar is known", x.cellar(number, 0), number);
        }
        Check.refused(() -> Dairies.withCellars(4), "build of the 5th", IllegalStateException.class,
            y -> y.build(4, 0));
    }

    @Sentence(under = "Terms", words = "each has warmth, 0 to 9, damp, 0 to 9")
    private static void cellarsHaveWarmthAndDamp() {
        for (int warmth = 0; warmth <= 9; warmth++) {
            for (int damp = 0; damp <= 9; damp++) {
                CheeseRota x = Dairies.empty();
                x.build(warmth, damp);
                Check.due("warmth as built", x.cellar(0, 0), warmth);
                Check.due("damp as built", x.cellar(0, 1), damp);
                x.air(0, 9 - damp, warmth);
                Check.due("warmth as aired", x.cellar(0, 0), 9 - damp);
                Check.due("damp as aired", x.cellar(0, 1), warmth);
            }
        }
    }

    @Sentence(under = "Terms", words = "and a board of 10 places, 0 to 9")
    private static void boardHasTenPlaces() {
        CheeseRota x = Dairies.oneCellar(0, 9, 0, 1, 2, 3, 4, 5, 6, 7, 8, 9);
        for (int place = 0; place <= 9; place++) {
            Check.due("wheel at " + place + " of a full board", x.at(0, place), place);
        }
        Check.due("wheels on a full board", x.cellar(0, 2), 10);
        Check.refused(() -> Dairies.withWheels(10), "make at 10", IndexOutOfBoundsException.class,
            y -> y.make(0, 10));
        Check.refused(() -> Dairies.withWheels(10), "make at -1", IndexOutOfBoundsException.class,
            y -> y.make(0, -1));
    }

    @Sentence(under = "Terms", words = "10 places, 0 to 9, one beside the other")
    private static void endsOfTheBoardAreNotBesideOneAnother() {
        for (int from = 0; from <= 9; from++) {
            CheeseRota x = Dairies.oneCellar(0, 5, 0, 1, 2, 3, 4, 5, 6, 7, 8, 9);
            x.infect(from, WHITE);
            x.pass(5);
            for (int place = 0; place <= 9; place++) {
                boolean near = place >= from - 1 && place <= from + 1;
                Check.due("mould at " + place + ", leapt from " + from, x.wheel(place, 7), near ? WHITE : 0);
            }
        }
    }

    // ---- wheels

    @Sentence(under = "Terms", words = "Wheels. There are at most 24, numbered likewise")
    private static void wheelsAreAtMost24() {
        CheeseRota x = Dairies.withCellars(3);
        for (int number = 0; number <= 23; number++) {
            Check.due("number of a wheel", x.make(number / 10, number % 10), number);
            Check.due("wheels", x.count(2), number + 1);
        }
        Check.refused(() -> Dairies.withWheels(24), "make of the 25th", IllegalStateException.class,
            y -> y.make(2, 4));
    }

    private static CheeseRota allSold() {
        CheeseRota x = Dairies.withCellars(1);
        for (int number = 0; number <= 23; number++) {
            Check.due("number of a wheel at the same place", x.make(0, 0), number);
            x.sell(number);
        }
        return x;
    }

    private static CheeseRota allLost() {
        CheeseRota x = Dairies.withCellars(3);
        x.air(0, 0, 0);
        x.air(1, 0, 0);
        x.air(2, 0, 0);
        for (int number = 0; number <= 23; number++) {
            x.make(number / 10, number % 10);
        }
        x.pass(16);
        Check.due("lost", x.count(5), 24);
        return x;
    }

    @Sentence(under = "Terms", words = "There are at most 24")
    private static void soldAndLostWheelsKeepTheirNumbers() {
        Check.refused(TermsTest::allSold, "make of the 25th, when all were sold", IllegalStateException.class,
            y -> y.make(0, 0));
        Check.refused(TermsTest::allLost, "make of the 25th, when all are lost", IllegalStateException.class,
            y -> y.make(0, 0));
    }

    @Sentence(under = "Terms",
        words = "each lies at a place of a cellar (at most one at each), or was sold, or is lost")
    private static void wheelsLieOneAtEachPlace() {
        CheeseRota x = Dairies.small();
        int[][] due = {{0, 0, 0}, {1, -1, -1}, {2, -1, -1}, {0, 1, 9}};
        for (int wheel = 0; wheel <= 3; wheel++) {
            for (int what = 0; what <= 2; what++) {
                Check.due("wheel(" + wheel + ", " + what + ")", x.wheel(wheel, what), due[wheel][what]);
            }
        }
        Check.due("at the place of the one that lies", x.at(0, 0), 0);
        Check.due("at the place of the sold one", x.at(0, 1), -1);
        Check.due("at the place of the lost one", x.at(1, 5), -1);
        Check.refused(Dairies::small, "make of a second one there", IllegalStateException.class,
            y -> y.make(0, 0));
        Check.refused(Dairies::small, "carry of a second one there", IllegalStateException.class,
            y -> y.carry(3, 0, 0));
    }

    @Sentence(under = "Terms", words = "it has ripeness, 0 to 100 (0, at first)")
    private static void ripenessIsAtMost100() {
        CheeseRota x = Dairies.oneCellar(9, 9, 0);
        Dairies.hire(x, 0, 1, Dairies.TURN);
        Check.due("ripeness at first", x.wheel(0, 3), 0);
        x.pass(11);
        Check.due("ripeness behind 11 days of 9", x.wheel(0, 3), 99);
        x.pass(1);
        Check.due("ripeness behind 12 days of 9", x.wheel(0, 3), 100);
        x.pass(1);
        Check.due("ripeness behind 13 days of 9", x.wheel(0, 3), 100);
        CheeseRota y = Dairies.oneCellar(5, 9, 0);
        Dairies.hire(y, 0, 1, Dairies.TURN);
        y.pass(20);
        Check.due("ripeness behind 20 days of 5", y.wheel(0, 3), 100);
        y.pass(1);
        Check.due("ripeness behind 21 days of 5", y.wheel(0, 3), 100);
    }

    @Sentence(under = "Terms", words = "salt, 0 to 20 (0, at first)")
    private static void saltIsAtMost20() {
        CheeseRota x = Dairies.oneCellar(0, 9, 0);
        Dairies.hire(x, 0, 1, Dairies.SALT);
        int[] due = {0, 2, 4, 6, 8, 10, 12, 14, 16, 18, 20, 20, 20};
        for (int day = 0; day < due.length; day++) {
            Check.due("salt on the day " + day, x.wheel(0, 4), due[day]);
            x.pass(1);
        }
    }

    @Sentence(under = "Terms", words = "water, 0 to 100 (80, at first)")
    private static void waterIsAtLeast0() {
        CheeseRota x = Dairies.oneCellar(0, 9, 0);
        Check.due("water at first", x.wheel(0, 5), 80);
        x.pass(100);
        Check.due("water with a damp of 9", x.wheel(0, 5), 80);
        x.air(0, 0, 0);
        x.pass(15);
        Check.due("water behind 15 days", x.wheel(0, 5), 5);
        x.pass(1);
        Check.due("water behind 16 days", x.wheel(0, 5), 0);
        CheeseRota y = Dairies.oneCellar(0, 3, 0);
        y.pass(26);
        Check.due("water behind 26 days of 3 less", y.wheel(0, 5), 2);
        y.pass(1);
        Check.due("water behind 27 days of 3 less", y.wheel(0, 5), 0);
    }

    @Sentence(under = "Terms", words = "idle days, since it was turned (0, at first)")
    private static void idleDaysAreToldFromTheTurning() {
        CheeseRota x = Dairies.oneCellar(0, 9, 0);
        int monk = x.hire(0, 1);
        x.setRota(monk, 5, Dairies.TURN);
        int[] due = {0, 1, 2, 3, 4, 5, 1, 2, 3, 4, 5, 6, 7, 1};
        for (int day = 0; day < due.length; day++) {
            Check.due("idle days on the day " + day, x.wheel(0, 6), due[day]);
            x.pass(1);
        }
    }

    @Sentence(under = "Terms", words =
        "a mould, 0 none (at first), 1 white, 2 blue, 3 black, with a growth, 1 to 9 (0 without one)")
    private static void mouldsAndTheirGrowth() {
        CheeseRota x = Dairies.oneCellar(0, 5, 0);
        Check.due("mould at first", x.wheel(0, 7), 0);
        Check.due("growth at first", x.wheel(0, 8), 0);
        x.pass(3);
        Check.due("mould without one, later", x.wheel(0, 7), 0);
        Check.due("growth without one, later", x.wheel(0, 8), 0);
        for (int mould = WHITE; mould <= BLUE; mould++) {
            x.infect(0, mould);
            for (int day = 0; day <= 10; day++) {
                Check.due("mould on its day " + day, x.wheel(0, 7), mould);
                Check.due("growth on its day " + day, x.wheel(0, 8), day < 8 ? 1 + day : 9);
                x.pass(1);
            }
        }
        x.infect(0, BLACK);
        Check.due("black mould", x.wheel(0, 7), BLACK);
        Check.due("its growth", x.wheel(0, 8), 1);
        x.infect(0, 0);
        Check.due("growth without one, at last", x.wheel(0, 8), 0);
    }

    @Sentence(under = "Terms", words = "(0 without one), and from where it came")
    private static void mouldsComeFromSomewhere() {
        CheeseRota x = Dairies.oneCellar(0, 5, 0, 1, 9);
        Check.due("from where without one", x.wheel(1, 9), -1);
        x.infect(0, WHITE);
        Check.due("from nowhere", x.wheel(0, 9), -1);
        x.pass(5);
        Check.due("from the wheel 0", x.wheel(1, 9), 0);
        Dairies.hire(x, 0, 3, Dairies.SALT);
        x.pass(1);
        Check.due("from the monk 0", x.wheel(2, 9), 100);
    }

    // ---- worth

    /** A wheel of this ripeness, 80 at most, and a water of 80, turned on the day before. */
    private static CheeseRota ripened(int ripeness) {
        CheeseRota x = Dairies.oneCellar(9, 9, 0);
        int monk = Dairies.hire(x, 0, 1, Dairies.TURN);
        if (ripeness / 9 > 0) {
            x.pass(ripeness / 9);
        }
        x.air(0, ripeness % 9, 9);
        x.pass(1);
        Dairies.setAllDays(x, monk, Dairies.REST);
        Check.due("ripeness", x.wheel(0, 3), ripeness);
        return x;
    }

    /** A wheel of a ripeness of 100, and a water of 40. */
    private static CheeseRota ripe() {
        CheeseRota x = Dairies.oneCellar(9, 9, 0);
        x.pass(27);
        x.air(0, 9, 2);
        x.pass(10);
        Check.due("ripeness", x.wheel(0, 3), 100);
        Check.due("water", x.wheel(0, 5), 40);
        return x;
    }

    @Sentence(under = "Terms", words =
        "Worth: the ripeness, and 30 more with blue mould of a growth of 3 to 6, 10 more with white mould, "
        + "40 less with black mould")
    private static void worthByMould() {
        CheeseRota x = ripe();
        x.air(0, 9, 5);
        Check.due("worth without mould", x.wheel(0, 10), 100);
        x.infect(0, WHITE);
        Check.due("worth with white mould of growth 1", x.wheel(0, 10), 110);
        x.infect(0, BLACK);
        Check.due("worth with black mould of growth 1", x.wheel(0, 10), 60);
        x.infect(0, BLUE);
        int[] blue = {0, 0, 30, 30, 30, 30, 0, 0, 0, 0};
        for (int day = 0; day < blue.length; day++) {
            int growth = Math.min(9, 1 + day);
            Check.due("growth", x.wheel(0, 8), growth);
            Check.due("worth with blue mould of growth " + growth, x.wheel(0, 10), 100 - 2 * day + blue[day]);
            x.pass(1);
        }
    }

    @Sentence(under = "Terms", words = "10 more with white mould, 40 less with black mould")
    private static void worthByWhiteOrBlackMouldOfAnyGrowth() {
        for (int mould = WHITE; mould <= BLACK; mould += 2) {
            CheeseRota x = ripe();
            x.air(0, 9, 5);
            x.infect(0, mould);
            for (int day = 0; day <= 8; day++) {
                Check.due("worth with the mould " + mould + " of growth " + (1 + day), x.wheel(0, 10),
                    100 - 2 * day + (mould == WHITE ? 10 : -40));
                x.pass(1);
            }
        }
    }

    @Sentence(under = "Terms", words = "and as much less as the water differs from 40; at least 0.")
    private static void worthByWater() {
        CheeseRota x = Dairies.oneCellar(9, 9, 0);
        x.pass(27);
        Check.due("worth with a water of 80", x.wheel(0, 10), 60);
        x.air(0, 9, 8);
        for (int water = 79; water >= 0; water--) {
            x.pass(1);
            Check.due("water", x.wheel(0, 5), water);
            Check.due("worth with a water of " + water, x.wheel(0, 10), 100 - Math.abs(water - 40));
        }
    }

    @Sentence(under = "Terms", words = "at least 0.")
    private static void worthIsAtLeast0() {
        int[] without = {0, 0, 1};
        for (int i = 0; i <= 2; i++) {
            Check.due("worth of a ripeness of " + (39 + i), ripened(39 + i).wheel(0, 10), without[i]);
            CheeseRota white = ripened(29 + i);
            white.infect(0, WHITE);
            Check.due("worth, white, of a ripeness of " + (29 + i), white.wheel(0, 10), without[i]);
            CheeseRota black = ripened(79 + i);
            black.infect(0, BLACK);
            Check.due("worth, black, of a ripeness of " + (79 + i), black.wheel(0, 10), without[i]);
            CheeseRota blue = ripened(9 + i);
            blue.infect(0, BLUE);
            blue.air(0, 0, 9);
            blue.pass(1);
            Check.due("worth, blue, of a ripeness of " + (9 + i), blue.wheel(0, 10), without[i]);
        }
        CheeseRota x = Dairies.oneCellar(0, 0, 0);
        x.infect(0, BLACK);
        Check.due("worth, far below 0", x.wheel(0, 10), 0);
        Check.due("worth, far below 0, when it is sold", x.sell(0), 0);
        Check.due("worth of all that were sold", x.count(7), 0);
    }

    // ---- catching

    @Sentence(under = "Terms", words = "A wheel can catch a mould, if it has none")
    private static void oneWithAMouldCatchesNone() {
        CheeseRota x = Dairies.oneCellar(0, 5, 4, 5);
        x.infect(0, BLUE);
        x.pass(6);
        x.infect(1, WHITE);
        x.pass(1);
        Check.due("mould beside a big one", x.wheel(1, 7), WHITE);
        Check.due("its growth", x.wheel(1, 8), 2);
        Check.due("from where it came", x.wheel(1, 9), -1);
        Dairies.hire(x, 0, 2, Dairies.TURN);
        x.pass(1);
        Check.due("mould on the hands", x.monk(0, 2), BLUE);
        Check.due("mould behind the hands", x.wheel(1, 7), WHITE);
        x.infect(1, 0);
        x.pass(1);
        Check.due("mould of one that had none", x.wheel(1, 7), BLUE);
    }

    @Sentence(under = "Terms", words = "and its salt is less than 8")
    private static void oneOf8SaltCatchesNone() {
        for (int salt = 0; salt <= 20; salt += 2) {
            int due = salt < 8 ? BLUE : 0;
            CheeseRota leapt = Dairies.salted(salt, 0, 9, 5);
            leapt.make(0, 4);
            leapt.infect(1, BLUE);
            leapt.pass(2);
            Check.due("mould that leaps on a salt of " + salt, leapt.wheel(0, 7), due);
            CheeseRota touched = Dairies.salted(salt, 0, 9, 5);
            touched.make(0, 0);
            touched.infect(1, BLUE);
            touched.pass(2);
            Dairies.hire(touched, 0, 2, Dairies.TURN);
            touched.pass(1);
            Check.due("mould from the hands on a salt of " + salt, touched.wheel(0, 7), due);
        }
    }

    @Sentence(under = "Terms", words = "it has it then, with a growth of 1")
    private static void aCaughtMouldHasAGrowthOf1() {
        for (int damp = 5; damp <= 6; damp++) {
            int grown = damp >= 6 ? 3 : 2;
            CheeseRota x = Dairies.oneCellar(0, 5, 0, 5);
            x.infect(0, BLUE);
            x.pass(4);
            x.air(0, 0, damp);
            Dairies.hire(x, 0, 2, Dairies.TURN);
            x.pass(1);
            Check.due("growth of one from the hands, and a day's", x.wheel(1, 8), grown);
            CheeseRota y = Dairies.oneCellar(0, 5, 0, 1);
            y.infect(0, BLUE);
            y.pass(4);
            y.air(0, 0, damp);
            y.pass(1);
            Check.due("growth of one that leapt, and a day's", y.wheel(1, 8), grown);
        }
    }

    // ---- monks

    @Sentence(under = "Terms", words = "Monks. There are at most 4, numbered likewise")
    private static void monksAreAtMostFour() {
        CheeseRota x = Dairies.withCellars(2);
        for (int number = 0; number <= 3; number++) {
            Check.due("number of a monk", x.hire(number % 2, 1 + number), number);
            Check.due("monks", x.count(8), number + 1);
        }
        for (int number = 0; number <= 3; number++) {
            Check.due("the hands by which a monk is known", x.monk(number, 1), 1 + number);
        }
        Check.refused(() -> Dairies.withMonks(4), "hire of the 5th", IllegalStateException.class,
            y -> y.hire(0, 1));
    }

    @Sentence(under = "Terms", words = "each works in a cellar, on 1 to 10 wheels a day")
    private static void monksWorkOnOneToTenWheels() {
        for (int hands = 1; hands <= 10; hands++) {
            CheeseRota x = Dairies.withWheels(20);
            Dairies.hire(x, 1, hands, Dairies.SALT);
            x.pass(1);
            for (int place = 0; place <= 9; place++) {
                Check.due("salt at " + place + " by " + hands, x.wheel(10 + place, 4), place < hands ? 2 : 0);
                Check.due("salt at " + place + " of another cellar", x.wheel(place, 4), 0);
            }
        }
    }

    @Sentence(under = "Terms", words = "and has a mould on the hands, 0 to 3 (0, at first)")
    private static void monksHaveAMouldOnTheHands() {
        for (int mould = 0; mould <= 3; mould++) {
            CheeseRota x = Dairies.oneCellar(0, 5, 0);
            x.infect(0, mould);
            x.pass(3);
            Dairies.hire(x, 0, 1, Dairies.TURN);
            Check.due("mould on the hands at first", x.monk(0, 2), 0);
            x.pass(1);
            Check.due("mould on the hands", x.monk(0, 2), mould);
        }
    }

    @Sentence(under = "Terms",
        words = "A rota tells for each monk and each of 7 days (the day by the remainder of 7) a work")
    private static void rotaGoesByTheRemainderOf7() {
        int[][] rotas = {{1, 2, 3, 0, 3, 2, 1}, {3, 3, 0, 1, 0, 2, 2}};
        CheeseRota x = Dairies.withMonks(2);
        for (int monk = 0; monk <= 1; monk++) {
            for (int day = 0; day <= 6; day++) {
                x.setRota(monk, day, rotas[monk][day]);
            }
        }
        for (int day = 0; day <= 21; day++) {
            Check.due("work of the monk 0 on the day " + day, x.monk(0, 4), rotas[0][day % 7]);
            Check.due("work of the monk 1 on the day " + day, x.monk(1, 4), rotas[1][day % 7]);
            x.pass(1);
        }
        x.pass(77);
        x.pass(100);
        Check.due("work on the day 199", x.monk(0, 4), rotas[0][3]);
        x.pass(3);
        Check.due("work on the day 202", x.monk(0, 4), rotas[0][6]);
        x.pass(1);
        Check.due("work on the day 203", x.monk(0, 4), rotas[0][0]);
    }

    @Sentence(under = "Terms", words = "a work, 0 rest (at first), 1 turn, 2 salt, 3 wash")
    private static void worksOfTheRota() {
        int[][] due = {{6, 0, 5}, {1, 0, 5}, {6, 2, 5}, {6, 0, 2}};
        for (int work = 0; work <= 3; work++) {
            CheeseRota x = Dairies.oneCellar(0, 5, 0);
            x.pass(2);
            x.infect(0, WHITE);
            x.pass(3);
            x.hire(0, 1);
            if (work != 0) {
                Dairies.setAllDays(x, 0, work);
            }
            x.pass(1);
            Check.due("idle days behind the work " + work, x.wheel(0, 6), due[work][0]);
            Check.due("salt behind the work " + work, x.wheel(0, 4), due[work][1]);
            Check.due("growth behind the work " + work, x.wheel(0, 8), due[work][2]);
        }
    }
}
