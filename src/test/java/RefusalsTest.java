import java.util.function.Supplier;

/**
 * Each sentence "Throws ..", with the last value that is allowed and the first that is not, and what
 * is said of all exceptions. Behind each refused call all that can be asked is as without it.
 */
public final class RefusalsTest {
    private static final Class<IndexOutOfBoundsException> NO_SUCH = IndexOutOfBoundsException.class;
    private static final Class<IllegalArgumentException> BAD_ARGUMENT = IllegalArgumentException.class;
    private static final Class<IllegalStateException> BAD_STATE = IllegalStateException.class;
    private static final String NAMED_FIRST =
        "If several exceptions apply, the one that is named first is thrown.";

    private interface CallWith {
        long of(CheeseRota x, int argument);
    }

    public static void main(String[] args) {
        Check.sentencesOf(RefusalsTest.class);
    }

    /** Just the arguments from least to most are allowed; with a most below the least there is none. */
    private static void within(Supplier<CheeseRota> maker, int least, int most, String told,
            Class<? extends RuntimeException> due, CallWith call) {
        for (int good = least; good <= most; good++) {
            int argument = good;
            Check.allowed(maker, told.replace("#", "" + argument), x -> call.of(x, argument));
        }
        int[] bad = {least - 1, most + 1, Integer.MIN_VALUE, Integer.MAX_VALUE};
        for (int argument : bad) {
            Check.refused(maker, told.replace("#", "" + argument), due, x -> call.of(x, argument));
        }
    }

    /** The numbers of so many wheels, cellars or monks are allowed; in an empty dairy there is none. */
    private static void numbered(Supplier<CheeseRota> maker, int count, String told, CallWith call) {
        within(maker, 0, count - 1, told, NO_SUCH, call);
        within(Dairies::empty, 0, -1, told + " of an empty dairy", NO_SUCH, call);
    }

    private static CheeseRota oneWheelInFourCellars() {
        CheeseRota x = Dairies.withCellars(4);
        x.make(2, 5);
        return x;
    }

    // ---- build

    @Sentence(under = "Promise 2", words = "Throws `IllegalArgumentException` if warmth or damp is not 0 to 9")
    private static void buildRefusesWarmthAndDamp() {
        within(Dairies::small, 0, 9, "build(#, 5)", BAD_ARGUMENT, (x, n) -> x.build(n, 5));
        within(Dairies::small, 0, 9, "build(5, #)", BAD_ARGUMENT, (x, n) -> x.build(5, n));
        within(Dairies::empty, 0, 9, "build(#, 0)", BAD_ARGUMENT, (x, n) -> x.build(n, 0));
        within(Dairies::empty, 0, 9, "build(0, #)", BAD_ARGUMENT, (x, n) -> x.build(0, n));
        Check.refused(Dairies::empty, "build(-1, 10)", BAD_ARGUMENT, x -> x.build(-1, 10));
    }

    @Sentence(under = "Promise 2", words = "Throws `IllegalStateException` if there are 4")
    private static void buildRefusesTheFifth() {
        Check.answers(() -> Dairies.withCellars(3), "build of the 4th", x -> x.build(9, 9), 3);
        Check.refused(() -> Dairies.withCellars(4), "build of the 5th", BAD_STATE, x -> x.build(9, 9));
        Check.refused(() -> Dairies.withCellars(4), "build of the 5th", BAD_STATE, x -> x.build(0, 0));
        Check.refused(Dairies::full, "build of the 5th", BAD_STATE, x -> x.build(5, 5));
    }

    // ---- air

    @Sentence(under = "Promise 3", words = "Throws `IndexOutOfBoundsException` if there is no such cellar")
    private static void airRefusesCellar() {
        numbered(Dairies::small, 2, "air(#, 5, 5)", (x, n) -> x.air(n, 5, 5));
        numbered(Dairies::full, 4, "air(#, 0, 9)", (x, n) -> x.air(n, 0, 9));
    }

    @Sentence(under = "Promise 3", words = "Throws `IllegalArgumentException` if warmth or damp is not 0 to 9")
    private static void airRefusesWarmthAndDamp() {
        within(Dairies::small, 0, 9, "air(1, #, 5)", BAD_ARGUMENT, (x, n) -> x.air(1, n, 5));
        within(Dairies::small, 0, 9, "air(1, 5, #)", BAD_ARGUMENT, (x, n) -> x.air(1, 5, n));
        within(Dairies::full, 0, 9, "air(3, #, 0)", BAD_ARGUMENT, (x, n) -> x.air(3, n, 0));
        within(Dairies::full, 0, 9, "air(0, 9, #)", BAD_ARGUMENT, (x, n) -> x.air(0, 9, n));
        Check.refused(Dairies::small, "air(0, 10, -1)", BAD_ARGUMENT, x -> x.air(0, 10, -1));
    }

    // ---- make

    @Sentence(under = "Promise 4",
        words = "Throws `IndexOutOfBoundsException` if there is no such cellar, or place is not 0 to 9")
    private static void makeRefusesCellarAndPlace() {
        numbered(Dairies::small, 2, "make(#, 4)", (x, n) -> x.make(n, 4));
        numbered(() -> Dairies.withCellars(4), 4, "make(#, 9)", (x, n) -> x.make(n, 9));
        within(() -> Dairies.withCellars(2), 0, 9, "make(0, #)", NO_SUCH, (x, n) -> x.make(0, n));
        within(() -> Dairies.withCellars(2), 0, 9, "make(1, #)", NO_SUCH, (x, n) -> x.make(1, n));
        Check.refused(Dairies::small, "make(2, 10)", NO_SUCH, x -> x.make(2, 10));
    }

    @Sentence(under = "Promise 4", words = "Throws `IllegalStateException` if there are 24, or one lies there")
    private static void makeRefusesThe25th() {
        Check.answers(() -> Dairies.withWheels(23), "make of the 24th", x -> x.make(2, 3), 23);
        Check.refused(() -> Dairies.withWheels(24), "make of the 25th", BAD_STATE, x -> x.make(2, 4));
        Check.refused(() -> Dairies.withWheels(24), "make of the 25th", BAD_STATE, x -> x.make(2, 9));
        Check.refused(Dairies::full, "make of the 25th in another cellar", BAD_STATE, x -> x.make(3, 9));
        Check.refused(Dairies::full, "make of the 25th where one was sold", BAD_STATE, x -> x.make(1, 0));
        Check.refused(Dairies::full, "make of the 25th where one was lost", BAD_STATE, x -> x.make(2, 2));
        Check.refused(Dairies::full, "make of the 25th where one lies", BAD_STATE, x -> x.make(0, 9));
    }

    @Sentence(under = "Promise 4", words = "if there are 24, or one lies there")
    private static void makeRefusesATakenPlace() {
        Check.refused(Dairies::small, "make(0, 0)", BAD_STATE, x -> x.make(0, 0));
        Check.refused(Dairies::small, "make(1, 9)", BAD_STATE, x -> x.make(1, 9));
        Check.answers(Dairies::small, "make at that place of the other cellar", x -> x.make(1, 0), 4);
        Check.answers(Dairies::small, "make where one was sold", x -> x.make(0, 1), 4);
        Check.answers(Dairies::small, "make where one was lost", x -> x.make(1, 5), 4);
        for (int taken = 0; taken <= 9; taken++) {
            int place = taken;
            Check.refused(() -> Dairies.withWheels(10), "make(0, " + place + ") on a full board", BAD_STATE,
                x -> x.make(0, place));
        }
        Check.answers(() -> Dairies.withWheels(9), "make at the last free place", x -> x.make(0, 9), 9);
    }

    // ---- carry

    @Sentence(under = "Promise 5", words =
        "Throws `IndexOutOfBoundsException` if there is no such wheel, or cellar, or place is not 0 to 9")
    private static void carryRefusesWheelCellarAndPlace() {
        numbered(() -> Dairies.withWheels(3), 3, "carry(#, 1, 5)", (x, n) -> x.carry(n, 1, 5));
        numbered(() -> Dairies.withWheels(24), 24, "carry(#, 2, 9)", (x, n) -> x.carry(n, 2, 9));
        numbered(Dairies::small, 2, "carry(0, #, 3)", (x, n) -> x.carry(0, n, 3));
        numbered(RefusalsTest::oneWheelInFourCellars, 4, "carry(0, #, 9)", (x, n) -> x.carry(0, n, 9));
        within(RefusalsTest::oneWheelInFourCellars, 0, 9, "carry(0, 0, #)", NO_SUCH, (x, n) -> x.carry(0, 0, n));
        within(RefusalsTest::oneWheelInFourCellars, 0, 9, "carry(0, 3, #)", NO_SUCH, (x, n) -> x.carry(0, 3, n));
    }

    @Sentence(under = "Promise 5",
        words = "Throws `IllegalStateException` if it lies in no cellar, or one lies there (also this one)")
    private static void carryRefusesOneInNoCellar() {
        Check.answers(Dairies::small, "carry of one that lies", x -> x.carry(0, 0, 3), 0);
        Check.refused(Dairies::small, "carry of a sold one", BAD_STATE, x -> x.carry(1, 0, 3));
        Check.refused(Dairies::small, "carry of a sold one to where it lay", BAD_STATE, x -> x.carry(1, 0, 1));
        Check.refused(Dairies::small, "carry of a lost one", BAD_STATE, x -> x.carry(2, 0, 3));
        Check.refused(Dairies::small, "carry of a lost one to where it lay", BAD_STATE, x -> x.carry(2, 1, 5));
        Check.refused(Dairies::full, "carry of a sold one", BAD_STATE, x -> x.carry(10, 3, 9));
        Check.refused(Dairies::full, "carry of a lost one", BAD_STATE, x -> x.carry(16, 3, 9));
    }

    @Sentence(under = "Promise 5", words = "or one lies there (also this one)")
    private static void carryRefusesATakenPlace() {
        Check.refused(Dairies::small, "carry to where it lies", BAD_STATE, x -> x.carry(0, 0, 0));
        Check.refused(Dairies::small, "carry to where it lies", BAD_STATE, x -> x.carry(3, 1, 9));
        Check.refused(Dairies::small, "carry to where another one lies", BAD_STATE, x -> x.carry(0, 1, 9));
        Check.refused(Dairies::small, "carry to where another one lies", BAD_STATE, x -> x.carry(3, 0, 0));
        Check.refused(Dairies::small, "carry of a sold one to where one lies", BAD_STATE, x -> x.carry(1, 0, 0));
        Check.answers(Dairies::small, "carry to that place of its cellar", x -> x.carry(0, 0, 9), 0);
        Check.answers(Dairies::small, "carry to its place of the other cellar", x -> x.carry(0, 1, 0), 0);
        Check.answers(Dairies::small, "carry to where one was sold", x -> x.carry(3, 0, 1), 19);
        Check.answers(Dairies::small, "carry to where one was lost", x -> x.carry(0, 1, 5), 0);
        for (int taken = 0; taken <= 9; taken++) {
            int place = taken;
            Check.refused(Dairies::full, "carry(23, 0, " + place + ") to a full board", BAD_STATE,
                x -> x.carry(23, 0, place));
        }
        Check.answers(() -> Dairies.withWheels(19), "carry to the last free place", x -> x.carry(0, 1, 9), 0);
    }

    // ---- infect

    @Sentence(under = "Promise 6", words = "Throws `IndexOutOfBoundsException` if there is no such wheel")
    private static void infectRefusesWheel() {
        numbered(() -> Dairies.withWheels(3), 3, "infect(#, 1)", (x, n) -> x.infect(n, 1));
        numbered(() -> Dairies.withWheels(24), 24, "infect(#, 0)", (x, n) -> x.infect(n, 0));
        Check.refused(Dairies::small, "infect(4, 1)", NO_SUCH, x -> x.infect(4, 1));
        Check.refused(Dairies::full, "infect(24, 1)", NO_SUCH, x -> x.infect(24, 1));
    }

    @Sentence(under = "Promise 6", words = "Throws `IllegalArgumentException` if mould is not 0 to 3")
    private static void infectRefusesMould() {
        within(Dairies::small, 0, 3, "infect(0, #)", BAD_ARGUMENT, (x, n) -> x.infect(0, n));
        within(Dairies::small, 0, 3, "infect(3, #) of one with a mould", BAD_ARGUMENT, (x, n) -> x.infect(3, n));
        within(Dairies::full, 0, 3, "infect(23, #)", BAD_ARGUMENT, (x, n) -> x.infect(23, n));
    }

    @Sentence(under = "Promise 6", words = "Throws `IllegalStateException` if it lies in no cellar")
    private static void infectRefusesOneInNoCellar() {
        for (int kind = 0; kind <= 3; kind++) {
            int mould = kind;
            Check.allowed(Dairies::small, "infect of one that lies", x -> x.infect(0, mould));
            Check.refused(Dairies::small, "infect of a sold one", BAD_STATE, x -> x.infect(1, mould));
            Check.refused(Dairies::small, "infect of a lost one", BAD_STATE, x -> x.infect(2, mould));
        }
        Check.refused(Dairies::full, "infect of a sold one", BAD_STATE, x -> x.infect(10, 1));
        Check.refused(Dairies::full, "infect of a lost one", BAD_STATE, x -> x.infect(16, 1));
    }

    // ---- sell

    @Sentence(under = "Promise 7", words = "Throws `IndexOutOfBoundsException` if there is no such wheel")
    private static void sellRefusesWheel() {
        numbered(() -> Dairies.withWheels(3), 3, "sell(#)", (x, n) -> x.sell(n));
        numbered(() -> Dairies.withWheels(24), 24, "sell(#)", (x, n) -> x.sell(n));
        Check.refused(Dairies::small, "sell(4)", NO_SUCH, x -> x.sell(4));
        Check.refused(Dairies::full, "sell(24)", NO_SUCH, x -> x.sell(24));
    }

    @Sentence(under = "Promise 7", words = "Throws `IllegalStateException` if it lies in no cellar")
    private static void sellRefusesOneInNoCellar() {
        Check.allowed(Dairies::small, "sell of one that lies", x -> x.sell(0));
        Check.refused(Dairies::small, "sell of a sold one", BAD_STATE, x -> x.sell(1));
        Check.refused(Dairies::small, "sell of a lost one", BAD_STATE, x -> x.sell(2));
        Check.refused(Dairies::full, "sell of a sold one", BAD_STATE, x -> x.sell(10));
        Check.refused(Dairies::full, "sell of a lost one", BAD_STATE, x -> x.sell(16));
    }

    // ---- hire

    @Sentence(under = "Promise 8", words = "Throws `IndexOutOfBoundsException` if there is no such cellar")
    private static void hireRefusesCellar() {
        numbered(Dairies::small, 2, "hire(#, 1)", (x, n) -> x.hire(n, 1));
        numbered(() -> Dairies.withCellars(4), 4, "hire(#, 10)", (x, n) -> x.hire(n, 10));
    }

    @Sentence(under = "Promise 8", words = "Throws `IllegalArgumentException` if hands is not 1 to 10")
    private static void hireRefusesHands() {
        within(Dairies::small, 1, 10, "hire(0, #)", BAD_ARGUMENT, (x, n) -> x.hire(0, n));
        within(() -> Dairies.withCellars(4), 1, 10, "hire(3, #)", BAD_ARGUMENT, (x, n) -> x.hire(3, n));
        Check.refused(Dairies::small, "hire(1, -1)", BAD_ARGUMENT, x -> x.hire(1, -1));
    }

    @Sentence(under = "Promise 8", words = "Throws `IllegalStateException` if there are 4")
    private static void hireRefusesTheFifth() {
        Check.answers(() -> Dairies.withMonks(3), "hire of the 4th", x -> x.hire(1, 10), 3);
        Check.refused(() -> Dairies.withMonks(4), "hire of the 5th", BAD_STATE, x -> x.hire(1, 10));
        Check.refused(() -> Dairies.withMonks(4), "hire of the 5th", BAD_STATE, x -> x.hire(0, 1));
        Check.refused(Dairies::full, "hire of the 5th", BAD_STATE, x -> x.hire(3, 5));
    }

    // ---- setRota

    @Sentence(under = "Promise 9",
        words = "Throws `IndexOutOfBoundsException` if there is no such monk, or day is not 0 to 6")
    private static void setRotaRefusesMonkAndDay() {
        numbered(Dairies::small, 2, "setRota(#, 0, 3)", (x, n) -> x.setRota(n, 0, 3));
        numbered(Dairies::full, 4, "setRota(#, 6, 0)", (x, n) -> x.setRota(n, 6, 0));
        within(Dairies::small, 0, 6, "setRota(1, #, 3)", NO_SUCH, (x, n) -> x.setRota(1, n, 3));
        within(Dairies::full, 0, 6, "setRota(3, #, 0)", NO_SUCH, (x, n) -> x.setRota(3, n, 0));
        Check.refused(() -> Dairies.withCellars(4), "setRota without monks", NO_SUCH, x -> x.setRota(0, 0, 0));
    }

    @Sentence(under = "Promise 9", words = "Throws `IllegalArgumentException` if work is not 0 to 3")
    private static void setRotaRefusesWork() {
        within(Dairies::small, 0, 3, "setRota(0, 0, #)", BAD_ARGUMENT, (x, n) -> x.setRota(0, 0, n));
        within(Dairies::full, 0, 3, "setRota(3, 6, #)", BAD_ARGUMENT, (x, n) -> x.setRota(3, 6, n));
    }

    // ---- wheel, cellar, at, monk, count

    @Sentence(under = "Promise 10",
        words = "Throws `IndexOutOfBoundsException` if there is no such wheel, or what is not 0 to 10")
    private static void wheelRefusesWheelAndWhat() {
        numbered(Dairies::small, 4, "wheel(#, 0)", (x, n) -> x.wheel(n, 0));
        numbered(Dairies::full, 24, "wheel(#, 10)", (x, n) -> x.wheel(n, 10));
        for (int number = 0; number <= 3; number++) {
            int wheel = number;
            within(Dairies::small, 0, 10, "wheel(" + wheel + ", #)", NO_SUCH, (x, n) -> x.wheel(wheel, n));
        }
    }

    @Sentence(under = "Promise 11",
        words = "Throws `IndexOutOfBoundsException` if there is no such cellar, or what is not 0 to 3")
    private static void cellarRefusesCellarAndWhat() {
        numbered(Dairies::small, 2, "cellar(#, 0)", (x, n) -> x.cellar(n, 0));
        numbered(Dairies::full, 4, "cellar(#, 3)", (x, n) -> x.cellar(n, 3));
        within(Dairies::small, 0, 3, "cellar(1, #)", NO_SUCH, (x, n) -> x.cellar(1, n));
        within(Dairies::full, 0, 3, "cellar(3, #)", NO_SUCH, (x, n) -> x.cellar(3, n));
    }

    @Sentence(under = "Promise 12",
        words = "Throws `IndexOutOfBoundsException` if there is no such cellar, or place is not 0 to 9")
    private static void atRefusesCellarAndPlace() {
        numbered(Dairies::small, 2, "at(#, 0)", (x, n) -> x.at(n, 0));
        numbered(Dairies::full, 4, "at(#, 9)", (x, n) -> x.at(n, 9));
        within(Dairies::small, 0, 9, "at(1, #)", NO_SUCH, (x, n) -> x.at(1, n));
        within(Dairies::full, 0, 9, "at(0, #) on a full board", NO_SUCH, (x, n) -> x.at(0, n));
    }

    @Sentence(under = "Promise 13",
        words = "Throws `IndexOutOfBoundsException` if there is no such monk, or what is not 0 to 4")
    private static void monkRefusesMonkAndWhat() {
        numbered(Dairies::small, 2, "monk(#, 0)", (x, n) -> x.monk(n, 0));
        numbered(Dairies::full, 4, "monk(#, 4)", (x, n) -> x.monk(n, 4));
        within(Dairies::small, 0, 4, "monk(1, #)", NO_SUCH, (x, n) -> x.monk(1, n));
        within(Dairies::full, 0, 4, "monk(3, #)", NO_SUCH, (x, n) -> x.monk(3, n));
        Check.refused(() -> Dairies.withCellars(4), "monk without monks", NO_SUCH, x -> x.monk(0, 0));
    }

    @Sentence(under = "Promise 14", words = "Throws `IndexOutOfBoundsException` if what is not 0 to 8")
    private static void countRefusesWhat() {
        within(Dairies::empty, 0, 8, "count(#) of an empty dairy", NO_SUCH, (x, n) -> x.count(n));
        within(Dairies::small, 0, 8, "count(#)", NO_SUCH, (x, n) -> x.count(n));
        within(Dairies::full, 0, 8, "count(#)", NO_SUCH, (x, n) -> x.count(n));
    }

    // ---- pass, best, foresee, advise

    @Sentence(under = "Promise 15", words = "Throws `IllegalArgumentException` if days is not 1 to 100")
    private static void passRefusesDays() {
        within(Dairies::empty, 1, 100, "pass(#) of an empty dairy", BAD_ARGUMENT, (x, n) -> x.pass(n));
        within(Dairies::small, 1, 100, "pass(#)", BAD_ARGUMENT, (x, n) -> x.pass(n));
        within(Dairies::full, 1, 100, "pass(#)", BAD_ARGUMENT, (x, n) -> x.pass(n));
        Check.refused(Dairies::small, "pass(-1)", BAD_ARGUMENT, x -> x.pass(-1));
    }

    @Sentence(under = "Promise 16", words = "Throws `IndexOutOfBoundsException` if there is no such wheel")
    private static void bestRefusesWheel() {
        numbered(Dairies::small, 4, "best(#)", (x, n) -> x.best(n));
        numbered(Dairies::full, 24, "best(#)", (x, n) -> x.best(n));
        Check.refused(() -> Dairies.withCellars(4), "best without wheels", NO_SUCH, x -> x.best(0));
    }

    @Sentence(under = "Promise 17", words = "Throws `IllegalArgumentException` if days is not 1 to 100")
    private static void foreseeRefusesDays() {
        for (int asked = 0; asked <= 2; asked++) {
            int what = asked;
            String told = "foresee(#, " + what + ")";
            within(Dairies::empty, 1, 100, told, BAD_ARGUMENT, (x, n) -> x.foresee(n, what));
            within(Dairies::small, 1, 100, told, BAD_ARGUMENT, (x, n) -> x.foresee(n, what));
        }
        Check.refused(Dairies::small, "foresee(-1, 0)", BAD_ARGUMENT, x -> x.foresee(-1, 0));
    }

    @Sentence(under = "Promise 17", words = "Throws `IndexOutOfBoundsException` if what is not 0 to 2")
    private static void foreseeRefusesWhat() {
        within(Dairies::empty, 0, 2, "foresee(1, #) of an empty dairy", NO_SUCH, (x, n) -> x.foresee(1, n));
        within(Dairies::small, 0, 2, "foresee(1, #)", NO_SUCH, (x, n) -> x.foresee(1, n));
        within(Dairies::full, 0, 2, "foresee(100, #)", NO_SUCH, (x, n) -> x.foresee(100, n));
    }

    @Sentence(under = "Promise 18", words = "Throws `IndexOutOfBoundsException` if there is no such wheel")
    private static void adviseRefusesWheel() {
        numbered(Dairies::small, 4, "advise(#, 1)", (x, n) -> x.advise(n, 1));
        numbered(Dairies::full, 24, "advise(#, 40)", (x, n) -> x.advise(n, 40));
        Check.refused(() -> Dairies.withCellars(4), "advise without wheels", NO_SUCH, x -> x.advise(0, 1));
    }

    @Sentence(under = "Promise 18", words = "Throws `IllegalArgumentException` if days is not 1 to 40")
    private static void adviseRefusesDays() {
        for (int number = 0; number <= 3; number++) {
            int wheel = number;
            String told = "advise(" + wheel + ", #)";
            within(Dairies::small, 1, 40, told, BAD_ARGUMENT, (x, n) -> x.advise(wheel, n));
        }
        within(Dairies::full, 1, 40, "advise(23, #)", BAD_ARGUMENT, (x, n) -> x.advise(23, n));
        Check.refused(Dairies::small, "advise(0, -1)", BAD_ARGUMENT, x -> x.advise(0, -1));
    }

    // ---- all exceptions

    @Sentence(under = "Terms", words = "A method that throws an exception changes nothing.")
    private static void manyRefusedCallsChangeNothing() {
        Check.refused(Dairies::full, "many refused calls", BAD_STATE, x -> {
            refuse(() -> x.build(9, 10));
            refuse(() -> x.air(0, 9, 10));
            refuse(() -> x.air(0, 10, 9));
            refuse(() -> x.make(1, 1));
            refuse(() -> x.carry(0, 0, 0));
            refuse(() -> x.carry(0, 3, 10));
            refuse(() -> x.carry(0, 0, 9));
            refuse(() -> x.infect(0, 4));
            refuse(() -> x.infect(10, 1));
            refuse(() -> x.sell(16));
            refuse(() -> x.hire(0, 11));
            refuse(() -> x.setRota(0, 0, 4));
            refuse(() -> x.setRota(0, 7, 1));
            refuse(() -> x.pass(101));
            refuse(() -> x.foresee(100, 3));
            refuse(() -> x.advise(0, 41));
            return x.hire(0, 1);
        });
    }

    private static void refuse(Runnable call) {
        boolean threw = false;
        try {
            call.run();
        } catch (IndexOutOfBoundsException | IllegalArgumentException | IllegalStateException e) {
            threw = true;
        }
        Check.isTrue("the refusal of each one of many calls", threw);
    }

    @Sentence(under = "Terms", words = NAMED_FIRST)
    private static void severalOfBuild() {
        Check.refused(() -> Dairies.withCellars(4), "build(10, 0) of the 5th", BAD_ARGUMENT, x -> x.build(10, 0));
        Check.refused(() -> Dairies.withCellars(4), "build(0, -1) of the 5th", BAD_ARGUMENT, x -> x.build(0, -1));
        Check.refused(Dairies::full, "build(-1, 10) of the 5th", BAD_ARGUMENT, x -> x.build(-1, 10));
    }

    @Sentence(under = "Terms", words = NAMED_FIRST)
    private static void severalOfAir() {
        Check.refused(Dairies::empty, "air(0, 10, 0)", NO_SUCH, x -> x.air(0, 10, 0));
        Check.refused(Dairies::small, "air(2, 0, 10)", NO_SUCH, x -> x.air(2, 0, 10));
        Check.refused(Dairies::full, "air(-1, -1, -1)", NO_SUCH, x -> x.air(-1, -1, -1));
    }

    @Sentence(under = "Terms", words = NAMED_FIRST)
    private static void severalOfMake() {
        Check.refused(Dairies::full, "make(4, 0) of the 25th", NO_SUCH, x -> x.make(4, 0));
        Check.refused(Dairies::full, "make(0, 10) of the 25th", NO_SUCH, x -> x.make(0, 10));
        Check.refused(Dairies::full, "make(0, -1) of the 25th", NO_SUCH, x -> x.make(0, -1));
    }

    @Sentence(under = "Terms", words = NAMED_FIRST)
    private static void severalOfCarry() {
        Check.refused(Dairies::small, "carry(1, 0, 10) of a sold one", NO_SUCH, x -> x.carry(1, 0, 10));
        Check.refused(Dairies::small, "carry(1, 2, 0) of a sold one", NO_SUCH, x -> x.carry(1, 2, 0));
        Check.refused(Dairies::small, "carry(2, 0, -1) of a lost one", NO_SUCH, x -> x.carry(2, 0, -1));
        Check.refused(Dairies::small, "carry(2, -1, 0) of a lost one", NO_SUCH, x -> x.carry(2, -1, 0));
        Check.refused(Dairies::small, "carry(4, 0, 0) to where one lies", NO_SUCH, x -> x.carry(4, 0, 0));
        Check.refused(Dairies::full, "carry(24, 0, 9) to a full board", NO_SUCH, x -> x.carry(24, 0, 9));
        Check.refused(Dairies::full, "carry(-1, 4, 10)", NO_SUCH, x -> x.carry(-1, 4, 10));
    }

    @Sentence(under = "Terms", words = NAMED_FIRST)
    private static void severalOfInfect() {
        Check.refused(Dairies::empty, "infect(0, 4)", NO_SUCH, x -> x.infect(0, 4));
        Check.refused(Dairies::small, "infect(4, -1)", NO_SUCH, x -> x.infect(4, -1));
        Check.refused(Dairies::small, "infect(1, 4) of a sold one", BAD_ARGUMENT, x -> x.infect(1, 4));
        Check.refused(Dairies::small, "infect(2, -1) of a lost one", BAD_ARGUMENT, x -> x.infect(2, -1));
    }

    @Sentence(under = "Terms", words = NAMED_FIRST)
    private static void severalOfHire() {
        Check.refused(Dairies::empty, "hire(0, 0)", NO_SUCH, x -> x.hire(0, 0));
        Check.refused(Dairies::small, "hire(2, 11)", NO_SUCH, x -> x.hire(2, 11));
        Check.refused(() -> Dairies.withMonks(4), "hire(2, 1) of the 5th", NO_SUCH, x -> x.hire(2, 1));
        Check.refused(() -> Dairies.withMonks(4), "hire(-1, 0) of the 5th", NO_SUCH, x -> x.hire(-1, 0));
        Check.refused(() -> Dairies.withMonks(4), "hire(0, 0) of the 5th", BAD_ARGUMENT, x -> x.hire(0, 0));
        Check.refused(Dairies::full, "hire(3, 11) of the 5th", BAD_ARGUMENT, x -> x.hire(3, 11));
    }

    @Sentence(under = "Terms", words = NAMED_FIRST)
    private static void severalOfSetRota() {
        Check.refused(Dairies::empty, "setRota(0, 0, 4)", NO_SUCH, x -> x.setRota(0, 0, 4));
        Check.refused(Dairies::small, "setRota(2, 6, -1)", NO_SUCH, x -> x.setRota(2, 6, -1));
        Check.refused(Dairies::small, "setRota(0, 7, 4)", NO_SUCH, x -> x.setRota(0, 7, 4));
        Check.refused(Dairies::full, "setRota(4, -1, -1)", NO_SUCH, x -> x.setRota(4, -1, -1));
    }

    @Sentence(under = "Terms", words = NAMED_FIRST)
    private static void severalOfForesee() {
        Check.refused(Dairies::empty, "foresee(0, 3)", BAD_ARGUMENT, x -> x.foresee(0, 3));
        Check.refused(Dairies::small, "foresee(101, -1)", BAD_ARGUMENT, x -> x.foresee(101, -1));
    }

    @Sentence(under = "Terms", words = NAMED_FIRST)
    private static void severalOfAdvise() {
        Check.refused(Dairies::empty, "advise(0, 0)", NO_SUCH, x -> x.advise(0, 0));
        Check.refused(Dairies::small, "advise(4, 41)", NO_SUCH, x -> x.advise(4, 41));
        Check.refused(Dairies::full, "advise(-1, 0)", NO_SUCH, x -> x.advise(-1, 0));
    }
}
