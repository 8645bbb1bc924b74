/** Promise 15, and what a day does, in its order of steps. */
public final class DaysTest {
    private static final int WHITE = 1;
    private static final int BLUE = 2;
    private static final int BLACK = 3;

    public static void main(String[] args) {
        Check.sentencesOf(DaysTest.class);
    }

    private static CheeseRota dairy(int warmth, int damp, int... places) {
        return Dairies.oneCellar(warmth, damp, places);
    }

    private static void hireFor(CheeseRota x, int hands, int work) {
        Dairies.hire(x, 0, hands, work);
    }

    // ---- pass

    @Sentence(under = "Promise 15", words = "Returns how many wheels are lost in them.")
    private static void passTellsTheLossesOfItsDays() {
        CheeseRota x = dairy(0, 0, 0, 1);
        Check.due("pass(15)", x.pass(15), 0);
        Check.due("pass(1)", x.pass(1), 2);
        Check.due("pass(1) behind it", x.pass(1), 0);
        x.make(0, 0);
        Check.due("pass(100)", x.pass(100), 1);
        Check.due("pass(100) with none left", x.pass(100), 0);
        Check.due("lost in all", x.count(5), 3);
        CheeseRota y = dairy(0, 0, 0, 1);
        y.sell(0);
        Check.due("pass(16) with a sold one", y.pass(16), 1);
        Check.due("pass(100) without wheels", Dairies.withMonks(4).pass(100), 0);
    }

    @Sentence(under = "Promise 15", words = "Lets days go by.")
    private static void passLetsSoManyDaysGoBy() {
        for (int days = 1; days <= 100; days++) {
            CheeseRota x = dairy(0, 9, 0);
            x.pass(days);
            Check.due("the day behind pass(" + days + ")", x.count(0), days);
            Check.due("idle days behind it", x.wheel(0, 6), days);
        }
    }

    @Sentence(under = "What it is", words =
        "An object is used for at most 512 calls after it has been made; what later calls answer is free.")
    private static void the512thCallIsAnswered() {
        CheeseRota x = dairy(0, 9, 0);
        for (int call = 3; call <= 510; call++) {
            x.pass(100);
        }
        Check.due("the 511th call: the day", x.count(0), 50800);
        Check.due("the 512th call: idle days", x.wheel(0, 6), 50800);
    }

    // ---- 1. Monks

    @Sentence(under = "Terms", words = "1. Monks, by numbers.")
    private static void monksByNumbers() {
        CheeseRota x = dairy(0, 9, 0, 5);
        x.infect(0, WHITE);
        x.pass(2);
        hireFor(x, 2, Dairies.WASH);
        hireFor(x, 2, Dairies.TURN);
        x.pass(1);
        Check.due("hands of the turning monk behind the washing one", x.monk(1, 2), 0);
        Check.due("none caught", x.wheel(1, 7), 0);
        CheeseRota y = dairy(0, 9, 0, 5);
        y.infect(0, WHITE);
        y.pass(2);
        hireFor(y, 2, Dairies.TURN);
        hireFor(y, 2, Dairies.WASH);
        y.pass(1);
        Check.due("hands of the turning monk ahead of the washing one", y.monk(0, 2), WHITE);
        Check.due("caught and washed off", y.wheel(1, 7), 0);
        Check.due("hands of the washing monk", y.monk(1, 2), 0);
    }

    @Sentence(under = "Terms", words = "With a rest the hands are clean (0).")
    private static void restCleansTheHands() {
        CheeseRota x = dairy(0, 5, 0);
        x.infect(0, BLUE);
        x.pass(6);
        hireFor(x, 1, Dairies.SALT);
        x.setRota(0, 0, Dairies.REST);
        x.pass(1);
        Check.due("hands behind a work", x.monk(0, 2), BLUE);
        x.pass(1);
        Check.due("hands behind a rest", x.monk(0, 2), 0);
        Check.due("salt behind a rest", x.wheel(0, 4), 2);
        x.pass(1);
        Check.due("hands behind a work again", x.monk(0, 2), BLUE);
    }

    @Sentence(under = "Terms", words = "With a rest the hands are clean (0).")
    private static void withoutARestTheHandsStayAsTheyAre() {
        CheeseRota x = dairy(0, 5, 0);
        x.infect(0, BLUE);
        x.pass(6);
        hireFor(x, 1, Dairies.SALT);
        x.pass(1);
        x.sell(0);
        x.pass(10);
        Check.due("hands behind works without wheels", x.monk(0, 2), BLUE);
        x.make(0, 5);
        x.pass(1);
        Check.due("caught from the hands, much later", x.wheel(1, 7), BLUE);
        Check.due("from the monk", x.wheel(1, 9), 100);
    }

    @Sentence(under = "Terms", words = "Otherwise the monk goes along the 10 places of the cellar, once")
    private static void alongThePlacesOnce() {
        CheeseRota x = dairy(0, 9, 3, 7);
        hireFor(x, 10, Dairies.SALT);
        x.pass(1);
        Check.due("salt of the first of two", x.wheel(0, 4), 2);
        Check.due("salt of the second of two", x.wheel(1, 4), 2);
        Check.due("latest place", x.monk(0, 3), 7);
        x.carry(0, 0, 8);
        x.pass(1);
        Check.due("salt of the first of two", x.wheel(0, 4), 4);
        Check.due("salt of the second of two", x.wheel(1, 4), 4);
        Check.due("the place of the day before comes last", x.monk(0, 3), 7);
        CheeseRota full = dairy(0, 9, 0, 1, 2, 3, 4, 5, 6, 7, 8, 9);
        hireFor(full, 10, Dairies.SALT);
        full.pass(3);
        for (int wheel = 0; wheel <= 9; wheel++) {
            Check.due("salt of one of ten", full.wheel(wheel, 4), 6);
        }
        Check.due("latest place of ten", full.monk(0, 3), 9);
        CheeseRota empty = dairy(0, 9);
        hireFor(empty, 10, Dairies.WASH);
        empty.pass(1);
        Check.due("latest place of none", empty.monk(0, 3), -1);
    }

    @Sentence(under = "Terms", words =
        "beginning with the one behind the place where the wheel lay on which this one worked the latest time")
    private static void behindTheLatestPlace() {
        for (int latest = 0; latest <= 9; latest++) {
            CheeseRota x = dairy(0, 9, latest);
            hireFor(x, 1, Dairies.SALT);
            x.pass(1);
            x.sell(0);
            for (int place = 0; place <= 9; place++) {
                x.make(0, place);
            }
            x.pass(1);
            int next = (latest + 1) % 10;
            for (int place = 0; place <= 9; place++) {
                Check.due("salt at " + place + " behind " + latest, x.wheel(1 + place, 4), place == next ? 2 : 0);
            }
        }
    }

    @Sentence(under = "Terms", words = "where the wheel lay on which this one worked the latest time")
    private static void behindWhereTheWheelLayThen() {
        CheeseRota x = dairy(0, 9, 4, 6);
        hireFor(x, 1, Dairies.SALT);
        x.pass(1);
        x.carry(0, 0, 5);
        x.pass(1);
        Check.due("salt of the one that was carried on to the place 5", x.wheel(0, 4), 4);
        Check.due("salt of the one at the place 6", x.wheel(1, 4), 0);
        x.carry(0, 0, 0);
        x.carry(1, 0, 5);
        x.pass(1);
        Check.due("salt of the one at the place 0", x.wheel(0, 4), 6);
        Check.due("salt of the one at the latest place, which comes last", x.wheel(1, 4), 0);
    }

    @Sentence(under = "Terms", words = "(with the place 0 at first, and behind the place 9)")
    private static void withThePlace0AtFirstAndBehindThePlace9() {
        CheeseRota x = dairy(0, 9, 9, 0);
        hireFor(x, 1, Dairies.SALT);
        int[] latest = {0, 9, 0, 9};
        for (int day = 0; day < latest.length; day++) {
            x.pass(1);
            Check.due("latest place behind the day " + day, x.monk(0, 3), latest[day]);
        }
        CheeseRota y = dairy(0, 9, 2, 5, 9);
        hireFor(y, 2, Dairies.TURN);
        int[][] idle = {{1, 1, 1}, {1, 2, 1}, {2, 1, 1}, {1, 1, 2}};
        int[] places = {5, 2, 9, 5};
        for (int day = 0; day < 4; day++) {
            y.pass(1);
            for (int wheel = 0; wheel < 3; wheel++) {
                Check.due("idle days of " + wheel + " behind the day " + day, y.wheel(wheel, 6), idle[day][wheel]);
            }
            Check.due("latest place behind the day " + day, y.monk(0, 3), places[day]);
        }
    }

    @Sentence(under = "Terms", words = "and works on the first so many wheels.")
    private static void onTheFirstSoManyWheels() {
        int[] places = {1, 4, 5, 8};
        for (int hands = 1; hands <= 10; hands++) {
            CheeseRota x = dairy(0, 9, places);
            hireFor(x, hands, Dairies.SALT);
            x.pass(1);
            for (int wheel = 0; wheel <= 3; wheel++) {
                Check.due("salt of the wheel " + wheel + " by " + hands, x.wheel(wheel, 4), wheel < hands ? 2 : 0);
            }
            Check.due("latest place of " + hands, x.monk(0, 3), places[Math.min(hands, 4) - 1]);
        }
    }

    @Sentence(under = "Terms", words = "A wheel that is turned has 0 idle days")
    private static void turning() {
        CheeseRota x = dairy(0, 9, 0, 1);
        x.pass(100);
        Check.due("idle days", x.wheel(0, 6), 100);
        hireFor(x, 1, Dairies.TURN);
        x.pass(1);
        Check.due("idle days of the turned one, a day's", x.wheel(0, 6), 1);
        Check.due("idle days of the other one", x.wheel(1, 6), 101);
        Check.due("salt of the turned one", x.wheel(0, 4), 0);
    }

    @Sentence(under = "Terms", words = "one that is salted has 2 more salt (at most 20)")
    private static void salting() {
        CheeseRota x = Dairies.salted(18, 0, 9, 0);
        Dairies.setAllDays(x, 0, Dairies.SALT);
        Check.due("salt ahead", x.wheel(0, 4), 18);
        x.pass(1);
        Check.due("salt behind", x.wheel(0, 4), 20);
        x.pass(1);
        Check.due("salt at most", x.wheel(0, 4), 20);
        Check.due("idle days of a salted one", x.wheel(0, 6), 11);
    }

    @Sentence(under = "Terms", words =
        "the mould of one that is washed has 3 less growth, and is none with 0 or less.")
    private static void washing() {
        int[] behind = {0, 0, 0, 2, 3, 4, 5, 6, 7};
        for (int growth = 1; growth <= 9; growth++) {
            CheeseRota x = dairy(0, 5, 0);
            x.infect(0, WHITE);
            if (growth > 1) {
                x.pass(growth - 1);
            }
            Check.due("growth ahead", x.wheel(0, 8), growth);
            hireFor(x, 1, Dairies.WASH);
            x.pass(1);
            Check.due("growth behind a washing of " + growth + ", and a day", x.wheel(0, 8), behind[growth - 1]);
            Check.due("mould behind a washing of " + growth, x.wheel(0, 7), growth <= 3 ? 0 : WHITE);
        }
        CheeseRota y = dairy(0, 5, 0);
        hireFor(y, 1, Dairies.WASH);
        y.pass(1);
        Check.due("mould behind a washing without one", y.wheel(0, 7), 0);
        Check.due("growth behind a washing without one", y.wheel(0, 8), 0);
        Check.due("idle days of a washed one", y.wheel(0, 6), 1);
    }

    @Sentence(under = "Terms", words =
        "Then, if the wheel has a mould with a growth of 4 or more, the hands have this mould from now on")
    private static void handsTakeAMouldOfAGrowthOf4() {
        for (int growth = 1; growth <= 9; growth++) {
            CheeseRota x = dairy(0, 5, 0, 5);
            x.infect(0, WHITE);
            if (growth > 1) {
                x.pass(growth - 1);
            }
            hireFor(x, 2, Dairies.TURN);
            x.pass(1);
            boolean taken = growth >= 4;
            Check.due("hands behind a growth of " + growth, x.monk(0, 2), taken ? WHITE : 0);
            Check.due("mould of the next one", x.wheel(1, 7), taken ? WHITE : 0);
            Check.due("from where", x.wheel(1, 9), taken ? 100 : -1);
            Check.due("from where the first one's came", x.wheel(0, 9), -1);
        }
    }

    @Sentence(under = "Terms", words = "Then, if the wheel has a mould with a growth of 4 or more")
    private static void handsGoByTheGrowthBehindTheWork() {
        for (int growth = 6; growth <= 7; growth++) {
            CheeseRota x = dairy(0, 5, 0);
            x.infect(0, WHITE);
            x.pass(growth - 1);
            hireFor(x, 1, Dairies.WASH);
            x.pass(1);
            Check.due("hands behind a washing of " + growth, x.monk(0, 2), growth == 7 ? WHITE : 0);
        }
        for (int salt = 4; salt <= 6; salt += 2) {
            CheeseRota y = Dairies.salted(salt, 0, 5, 5);
            y.make(0, 0);
            y.infect(1, BLUE);
            y.pass(4);
            hireFor(y, 2, Dairies.SALT);
            y.pass(1);
            Check.due("mould of one salted from " + salt, y.wheel(0, 7), salt == 4 ? BLUE : 0);
        }
    }

    @Sentence(under = "Terms", words = "if the wheel has a mould with a growth of 4 or more")
    private static void aMouldOnSaltIsCarriedAndLeaps() {
        CheeseRota x = Dairies.oneCellar(0, 5, 0);
        hireFor(x, 1, Dairies.SALT);
        x.infect(0, BLUE);
        x.pass(10);
        Check.due("salt", x.wheel(0, 4), 20);
        Check.due("growth, which went on to a salt of 10", x.wheel(0, 8), 6);
        x.make(0, 1);
        x.make(0, 5);
        hireFor(x, 3, Dairies.TURN);
        Dairies.setAllDays(x, 0, Dairies.REST);
        x.pass(1);
        Check.due("hands", x.monk(1, 2), BLUE);
        Check.due("mould of the next one", x.wheel(1, 7), BLUE);
        Check.due("mould of the one far off", x.wheel(2, 7), BLUE);
        Dairies.setAllDays(x, 1, Dairies.REST);
        x.infect(1, 0);
        x.pass(1);
        Check.due("mould that leapt", x.wheel(1, 7), BLUE);
        Check.due("from where", x.wheel(1, 9), 0);
    }

    @Sentence(under = "Terms", words = "the hands have this mould from now on")
    private static void handsChangeTheirMould() {
        CheeseRota x = dairy(0, 5, 0, 2, 4, 6, 8);
        x.infect(0, BLUE);
        x.infect(2, BLACK);
        x.pass(4);
        hireFor(x, 5, Dairies.TURN);
        x.pass(1);
        int[] mould = {BLUE, BLUE, BLACK, BLACK, BLACK};
        int[] source = {-1, 100, -1, 100, 100};
        for (int wheel = 0; wheel <= 4; wheel++) {
            Check.due("mould of the wheel " + wheel, x.wheel(wheel, 7), mould[wheel]);
            Check.due("from where", x.wheel(wheel, 9), source[wheel]);
        }
        Check.due("hands", x.monk(0, 2), BLACK);
    }

    @Sentence(under = "Terms", words =
        "otherwise, if the hands have a mould, and the wheel can catch one, it catches this.")
    private static void catchingFromTheHands() {
        CheeseRota clean = dairy(0, 5, 0, 5);
        hireFor(clean, 2, Dairies.TURN);
        clean.pass(1);
        Check.due("mould from clean hands", clean.wheel(1, 7), 0);
        CheeseRota small = dairy(0, 5, 0, 5);
        small.infect(0, BLUE);
        small.pass(4);
        small.infect(1, WHITE);
        hireFor(small, 2, Dairies.TURN);
        small.pass(1);
        Check.due("mould of one that has a small one", small.wheel(1, 7), WHITE);
        Check.due("its growth", small.wheel(1, 8), 2);
        Check.due("hands behind it", small.monk(0, 2), BLUE);
        CheeseRota washed = dairy(0, 5, 0, 5);
        washed.infect(0, WHITE);
        washed.pass(6);
        washed.infect(1, BLACK);
        hireFor(washed, 2, Dairies.WASH);
        washed.pass(1);
        Check.due("hands of the washing monk", washed.monk(0, 2), WHITE);
        Check.due("mould of one that was washed free of its own", washed.wheel(1, 7), WHITE);
        Check.due("from the hands", washed.wheel(1, 9), 100);
    }

    // ---- 2. Leaping

    /** The mould of a wheel at 4 a day behind one of this growth, 5 at most, lay before or behind it. */
    private static int leapt(int growth, int damp, int from) {
        CheeseRota x = dairy(0, 5, 4, from);
        x.infect(1, BLUE);
        if (growth > 1) {
            x.pass(growth - 1);
        }
        Check.due("growth ahead of the leaping", x.wheel(1, 8), growth);
        x.air(0, 0, damp);
        x.pass(1);
        Check.due("from where", x.wheel(0, 9), x.wheel(0, 7) == 0 ? -1 : 1);
        return x.wheel(0, 7);
    }

    @Sentence(under = "Terms", words =
        "a wheel that can catch a mould catches that of the wheel at the place before it, if this has one with "
        + "a growth of 5 or more (3 or more in a cellar with a damp of 6 or more)")
    private static void leapingFromThePlaceBefore() {
        for (int growth = 1; growth <= 5; growth++) {
            for (int damp = 0; damp <= 9; damp++) {
                int due = growth >= 5 || growth >= 3 && damp >= 6 ? BLUE : 0;
                String told = "mould by a growth of " + growth + " before it, with a damp of " + damp;
                Check.due(told, leapt(growth, damp, 3), due);
            }
        }
    }

    @Sentence(under = "Terms", words = "otherwise that of the wheel at the place behind it likewise.")
    private static void leapingFromThePlaceBehind() {
        for (int growth = 1; growth <= 5; growth++) {
            for (int damp = 0; damp <= 9; damp++) {
                int due = growth >= 5 || growth >= 3 && damp >= 6 ? BLUE : 0;
                String told = "mould by a growth of " + growth + " behind it, with a damp of " + damp;
                Check.due(told, leapt(growth, damp, 5), due);
            }
        }
    }

    @Sentence(under = "Terms", words = "otherwise that of the wheel at the place behind it likewise.")
    private static void leapingFromBeforeIfBothCould() {
        for (int before = 1; before <= 5; before++) {
            CheeseRota x = dairy(0, 5, 5, 4, 6);
            x.infect(2, BLUE);
            if (before < 5) {
                x.pass(5 - before);
            }
            x.infect(1, WHITE);
            if (before > 1) {
                x.pass(before - 1);
            }
            Check.due("growth before", x.wheel(1, 8), before);
            Check.due("growth behind", x.wheel(2, 8), 5);
            x.pass(1);
            Check.due("mould between " + before + " and 5", x.wheel(0, 7), before == 5 ? WHITE : BLUE);
            Check.due("from where between " + before + " and 5", x.wheel(0, 9), before == 5 ? 1 : 2);
        }
    }

    @Sentence(under = "Terms", words = "2. Leaping, all by what was ahead of this step")
    private static void leapingOnePlaceADay() {
        CheeseRota x = dairy(0, 9, 0, 1, 2, 3);
        x.infect(0, WHITE);
        int[] mouldy = {1, 2, 3, 4};
        for (int day = 0; day < 4; day++) {
            x.pass(1);
            Check.due("mouldy behind the day " + day, x.count(6), mouldy[day]);
        }
        Check.due("from its neighbour", x.wheel(3, 9), 2);
        CheeseRota y = dairy(0, 9, 3, 2, 1, 0);
        y.infect(0, WHITE);
        for (int day = 0; day < 4; day++) {
            y.pass(1);
            Check.due("mouldy to the other side behind the day " + day, y.count(6), mouldy[day]);
        }
        Check.due("from its neighbour", y.wheel(3, 9), 2);
    }

    @Sentence(under = "Terms", words = "all by what was ahead of this step")
    private static void leapingGoesByWhatTheMonksLeft() {
        CheeseRota washed = dairy(0, 5, 0, 1);
        washed.infect(0, WHITE);
        washed.pass(4);
        hireFor(washed, 1, Dairies.WASH);
        washed.pass(1);
        Check.due("mould beside one of 5 that was washed", washed.wheel(1, 7), 0);
        CheeseRota grown = dairy(0, 5, 0, 1);
        grown.infect(0, WHITE);
        grown.pass(4);
        Check.due("growth 5, behind the leaping of its day", grown.wheel(0, 8), 5);
        Check.due("mould beside it", grown.wheel(1, 7), 0);
        for (int salt = 4; salt <= 6; salt += 2) {
            CheeseRota salted = Dairies.salted(salt, 0, 5, 0);
            salted.make(0, 1);
            salted.infect(1, WHITE);
            salted.pass(4);
            hireFor(salted, 2, Dairies.SALT);
            salted.pass(1);
            Check.due("mould of one salted from " + salt + " on this day", salted.wheel(0, 7), salt == 4 ? WHITE : 0);
        }
    }

    @Sentence(under = "Terms", words =
        "a wheel that can catch a mould catches that of the wheel at the place before it")
    private static void leapingNotOverEndsAndGapsAndCellars() {
        CheeseRota x = dairy(0, 9, 0, 9);
        x.build(0, 9);
        x.make(1, 0);
        x.make(1, 9);
        x.infect(0, WHITE);
        x.infect(3, BLUE);
        x.pass(20);
        Check.due("mould at the other end", x.wheel(1, 7), 0);
        Check.due("mould in the other cellar", x.wheel(2, 7), 0);
        CheeseRota gap = dairy(0, 9, 4, 6);
        gap.infect(0, WHITE);
        gap.pass(20);
        Check.due("mould over a free place", gap.wheel(1, 7), 0);
        CheeseRota left = dairy(0, 9, 4, 5);
        left.infect(0, WHITE);
        left.pass(1);
        left.sell(0);
        left.pass(5);
        Check.due("mould beside the place of a sold one", left.wheel(1, 7), 0);
    }

    // ---- 3. Wheels in cellars

    @Sentence(under = "Terms", words = "a mould on less than 12 salt has 1 more growth")
    private static void growingOnSalt() {
        for (int salt = 0; salt <= 20; salt += 2) {
            for (int damp = 5; damp <= 6; damp++) {
                CheeseRota x = Dairies.salted(salt, 0, damp, 0);
                x.infect(0, WHITE);
                x.pass(1);
                int due = salt >= 12 ? 1 : damp >= 6 ? 3 : 2;
                Check.due("growth on a salt of " + salt + ", with a damp of " + damp, x.wheel(0, 8), due);
            }
        }
    }

    @Sentence(under = "Terms", words = "with a damp of 6 or more 2 more in all (at most 9)")
    private static void growingByTheDamp() {
        for (int damp = 0; damp <= 9; damp++) {
            for (int growth = 1; growth <= 9; growth++) {
                CheeseRota x = dairy(0, 5, 0);
                x.infect(0, WHITE);
                if (growth > 1) {
                    x.pass(growth - 1);
                }
                x.air(0, 0, damp);
                x.pass(1);
                int due = Math.min(9, growth + (damp >= 6 ? 2 : 1));
                Check.due("growth from " + growth + ", with a damp of " + damp, x.wheel(0, 8), due);
            }
        }
        CheeseRota y = dairy(0, 9, 0);
        y.pass(5);
        Check.due("growth without a mould", y.wheel(0, 8), 0);
    }

    @Sentence(under = "Terms", words =
        "the ripeness is as much more as the warmth of the cellar, with 7 or more idle days half of it (cut; at "
        + "most 100)")
    private static void ripening() {
        for (int warmth = 0; warmth <= 9; warmth++) {
            for (int idle = 1; idle <= 9; idle++) {
                CheeseRota x = dairy(0, 9, 0);
                x.pass(idle);
                x.air(0, warmth, 9);
                x.pass(1);
                int due = idle >= 7 ? warmth / 2 : warmth;
                Check.due("ripeness by " + warmth + " with " + idle + " idle days", x.wheel(0, 3), due);
            }
        }
        CheeseRota y = dairy(9, 9, 0);
        int[] due = {9, 18, 27, 36, 45, 54, 63, 67, 71, 75, 79, 83, 87, 91, 95, 99, 100, 100};
        for (int day = 0; day < due.length; day++) {
            y.pass(1);
            Check.due("ripeness behind the day " + day, y.wheel(0, 3), due[day]);
        }
        y.make(0, 5);
        y.pass(6);
        hireFor(y, 2, Dairies.TURN);
        y.pass(2);
        Check.due("ripeness, turned ahead of the 7th idle day", y.wheel(1, 3), 72);
        Check.due("ripeness of one that is ripe", y.wheel(0, 3), 100);
    }

    @Sentence(under = "Terms", words = "the water is (10 - damp) / 2 less (at least 0)")
    private static void drying() {
        int[] less = {5, 4, 4, 3, 3, 2, 2, 1, 1, 0};
        for (int damp = 0; damp <= 9; damp++) {
            CheeseRota x = dairy(0, damp, 0);
            x.pass(3);
            Check.due("water with a damp of " + damp, x.wheel(0, 5), 80 - 3 * less[damp]);
        }
        for (int left = 1; left <= 6; left++) {
            CheeseRota y = dairy(0, 8, 0);
            y.pass(80 - left);
            y.air(0, 0, 0);
            y.pass(1);
            Check.due("water of " + left + ", 5 less", y.wheel(0, 5), Math.max(left - 5, 0));
            Check.due("lost", y.wheel(0, 0), left > 5 ? 0 : 2);
        }
    }

    @Sentence(under = "Terms", words = "one idle day more.")
    private static void idling() {
        CheeseRota x = dairy(0, 9, 0, 1);
        x.build(0, 9);
        x.make(1, 0);
        for (int day = 1; day <= 8; day++) {
            x.pass(1);
            Check.due("idle days", x.wheel(0, 6), day);
            Check.due("idle days in another cellar", x.wheel(2, 6), day);
        }
        x.sell(1);
        x.pass(1);
        Check.due("idle days of one that lies", x.wheel(0, 6), 9);
        Check.due("idle days of a sold one", x.wheel(1, 6), 8);
    }

    @Sentence(under = "Terms", words =
        "With black mould of a growth of 9, or without water, the wheel is lost.")
    private static void losingByBlackMould() {
        for (int mould = WHITE; mould <= BLACK; mould++) {
            CheeseRota x = dairy(9, 5, 0, 5);
            x.infect(0, mould);
            Check.due("lost with the mould " + mould + " of a growth of 8", x.pass(7), 0);
            Check.due("growth 8", x.wheel(0, 8), 8);
            int lost = mould == BLACK ? 1 : 0;
            Check.due("lost with the mould " + mould + " of a growth of 9", x.pass(1), lost);
            Check.due("its fate", x.wheel(0, 0), 2 * lost);
            Check.due("its growth", x.wheel(0, 8), 9);
            Check.due("its ripeness", x.wheel(0, 3), 67);
            Check.due("its idle days", x.wheel(0, 6), 8);
            x.pass(1);
            Check.due("its idle days on the next day", x.wheel(0, 6), 9 - lost);
            Check.due("in cellars", x.count(3), 2 - lost);
            Check.due("wheel at its place", x.at(0, 0), mould == BLACK ? -1 : 0);
        }
    }

    @Sentence(under = "Terms", words = "or without water, the wheel is lost.")
    private static void losingWithoutWater() {
        CheeseRota x = dairy(1, 8, 0);
        Check.due("lost in 79 days", x.pass(79), 0);
        Check.due("water", x.wheel(0, 5), 1);
        Check.due("lost with a water of 1", x.count(5), 0);
        Check.due("lost on the 80th day", x.pass(1), 1);
        Check.due("water", x.wheel(0, 5), 0);
        Check.due("its fate", x.wheel(0, 0), 2);
        Check.due("wheel at its place", x.at(0, 0), -1);
    }

    @Sentence(under = "Terms", words = "3. Wheels in cellars, by numbers")
    private static void lostAndSoldWheelsTakeNoPartInDays() {
        CheeseRota x = Dairies.small();
        Dairies.setAllDays(x, 0, Dairies.SALT);
        Dairies.setAllDays(x, 1, Dairies.WASH);
        for (int wheel = 1; wheel <= 2; wheel++) {
            int[] before = new int[11];
            for (int what = 0; what <= 10; what++) {
                before[what] = x.wheel(wheel, what);
            }
            x.pass(3);
            for (int what = 0; what <= 10; what++) {
                Check.due("wheel(" + wheel + ", " + what + ") 3 days later", x.wheel(wheel, what), before[what]);
            }
        }
    }

    @Sentence(under = "Terms", words = "4. The day is 1 greater.")
    private static void theDayIsOneGreater() {
        CheeseRota x = dairy(0, 9, 0);
        x.hire(0, 1);
        x.setRota(0, 0, Dairies.SALT);
        for (int day = 1; day <= 7; day++) {
            x.pass(1);
            Check.due("the day", x.count(0), day);
            Check.due("salt, of the day 0 alone", x.wheel(0, 4), 2);
        }
        x.pass(1);
        Check.due("salt, of the day 7", x.wheel(0, 4), 4);
    }
}
