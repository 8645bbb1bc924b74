/** Promises 1 to 9, what is not refused: a new object, build, air, make, carry, infect, sell, hire, setRota. */
public final class ActsTest {
    public static void main(String[] args) {
        Check.sentencesOf(ActsTest.class);
    }

    @Sentence(under = "Promise 1", words = "Creates a dairy without cellars, on the day 0.")
    private static void newObject() {
        CheeseRota x = new CheeseRota();
        for (int what = 0; what <= 8; what++) {
            Check.due("count(" + what + ") of a new object", x.count(what), 0);
        }
        Check.refused(Dairies::empty, "cellar of a new object", IndexOutOfBoundsException.class,
            y -> y.cellar(0, 0));
        Check.due("pass without anything", x.pass(100), 0);
        Check.due("day behind it", x.count(0), 100);
        Check.due("another object's day", new CheeseRota().count(0), 0);
    }

    @Sentence(under = "Promise 2", words = "Returns its number.")
    private static void build() {
        CheeseRota x = new CheeseRota();
        int[][] due = {{0, 9}, {9, 0}, {4, 6}, {5, 5}};
        for (int number = 0; number <= 3; number++) {
            Check.due("build", x.build(due[number][0], due[number][1]), number);
        }
        for (int number = 0; number <= 3; number++) {
            Check.due("warmth of " + number, x.cellar(number, 0), due[number][0]);
            Check.due("damp of " + number, x.cellar(number, 1), due[number][1]);
        }
        Check.due("cellars", x.count(1), 4);
    }

    @Sentence(under = "Promise 3", words = "Returns 10 * warmth + damp, as they were before.")
    private static void air() {
        CheeseRota x = new CheeseRota();
        x.build(4, 7);
        x.build(8, 3);
        int[][] aired = {{9, 9}, {0, 0}, {0, 9}, {9, 0}, {5, 5}};
        int before = 47;
        for (int[] now : aired) {
            Check.due("air(0, " + now[0] + ", " + now[1] + ")", x.air(0, now[0], now[1]), before);
            Check.due("warmth", x.cellar(0, 0), now[0]);
            Check.due("damp", x.cellar(0, 1), now[1]);
            before = 10 * now[0] + now[1];
        }
        Check.due("air of the other cellar to what it was", x.air(1, 8, 3), 83);
    }

    @Sentence(under = "Promise 4", words = "Makes a wheel.")
    private static void makeAFreshOne() {
        CheeseRota x = Dairies.withCellars(3);
        x.make(0, 0);
        x.pass(5);
        x.infect(0, 1);
        x.make(2, 9);
        int[] fresh = {0, 2, 9, 0, 0, 80, 0, 0, 0, -1, 0};
        for (int what = 0; what < fresh.length; what++) {
            Check.due("wheel(1, " + what + ") of a new one", x.wheel(1, what), fresh[what]);
        }
        Check.due("at its place", x.at(2, 9), 1);
    }

    @Sentence(under = "Promise 4", words = "Returns its number.")
    private static void makeTellsTheNumber() {
        CheeseRota x = Dairies.withCellars(3);
        Check.due("make at the first place", x.make(0, 0), 0);
        Check.due("make at the last place", x.make(0, 9), 1);
        x.sell(0);
        Check.due("make where one was sold", x.make(0, 0), 2);
        Check.due("wheels", x.count(2), 3);
        Check.due("in cellars", x.count(3), 2);
    }

    @Sentence(under = "Promise 5", words = "Returns 10 * cellar + place from where it is carried.")
    private static void carry() {
        CheeseRota x = Dairies.withCellars(4);
        x.make(0, 0);
        int[] way = {0, 9, 39, 30, 3, 17, 26};
        for (int step = 1; step < way.length; step++) {
            int to = way[step];
            Check.due("carry", x.carry(0, to / 10, to % 10), way[step - 1]);
            Check.due("left", x.at(way[step - 1] / 10, way[step - 1] % 10), -1);
            Check.due("come", x.at(to / 10, to % 10), 0);
            Check.due("its cellar", x.wheel(0, 1), to / 10);
            Check.due("its place", x.wheel(0, 2), to % 10);
        }
    }

    @Sentence(under = "Promise 5", words = "Carries a wheel to another place.")
    private static void carryChangesThePlaceAlone() {
        CheeseRota x = Dairies.small();
        CheeseRota y = Dairies.small();
        x.carry(3, 0, 9);
        for (int what = 3; what <= 10; what++) {
            Check.due("wheel(3, " + what + ") behind a carrying", x.wheel(3, what), y.wheel(3, what));
        }
        Check.due("another one's place", x.at(0, 0), 0);
    }

    @Sentence(under = "Promise 6", words = "Returns the mould before.")
    private static void infectTellsTheMouldBefore() {
        for (int before = 0; before <= 3; before++) {
            for (int mould = 0; mould <= 3; mould++) {
                CheeseRota x = Dairies.oneCellar(5, 5, 0);
                x.infect(0, before);
                Check.due("infect(0, " + mould + ") of " + before, x.infect(0, mould), before);
                Check.due("its mould", x.wheel(0, 7), mould);
                Check.due("its growth", x.wheel(0, 8), mould == 0 ? 0 : 1);
                Check.due("from where", x.wheel(0, 9), -1);
            }
        }
    }

    @Sentence(under = "Promise 6", words =
        "Has a wheel have a mould with a growth of 1, from nowhere, in the place of another one; or none.")
    private static void infectInThePlaceOfAnotherOne() {
        for (int mould = 0; mould <= 3; mould++) {
            CheeseRota x = Dairies.oneCellar(5, 5, 0, 1);
            x.infect(0, 1);
            x.pass(7);
            Check.due("growth of one that leapt", x.wheel(1, 8), 4);
            Check.due("from where it leapt", x.wheel(1, 9), 0);
            Check.due("infect(1, " + mould + ")", x.infect(1, mould), 1);
            Check.due("mould in its place", x.wheel(1, 7), mould);
            Check.due("growth in its place", x.wheel(1, 8), mould == 0 ? 0 : 1);
            Check.due("from nowhere", x.wheel(1, 9), -1);
        }
    }

    @Sentence(under = "Promise 6", words = "Has a wheel have a mould")
    private static void infectOfASaltedOne() {
        CheeseRota x = Dairies.salted(20, 5, 5, 0);
        Check.due("infect on a salt of 20", x.infect(0, 2), 0);
        Check.due("its mould", x.wheel(0, 7), 2);
        Check.due("its growth", x.wheel(0, 8), 1);
        x.pass(5);
        Check.due("its growth, later", x.wheel(0, 8), 1);
    }

    @Sentence(under = "Promise 7", words = "Returns its worth.")
    private static void sellTellsTheWorth() {
        CheeseRota x = Dairies.oneCellar(9, 2, 0, 5, 9);
        x.pass(10);
        // 7 days of 9 and 3 of 4: ripeness 75; water 80 - 40
        x.infect(1, 1);
        x.infect(2, 3);
        Check.due("sell", x.sell(0), 75);
        Check.due("sell with white mould", x.sell(1), 85);
        Check.due("sell with black mould", x.sell(2), 35);
        Check.due("the worth of all that were sold", x.count(7), 195);
        CheeseRota y = Dairies.oneCellar(0, 0, 0);
        Check.due("sell of a worthless one", y.sell(0), 0);
        Check.due("sold ones", y.count(4), 1);
    }

    @Sentence(under = "Promise 7", words = "Sells a wheel.")
    private static void aSoldOneStaysAsItWas() {
        CheeseRota x = Dairies.oneCellar(9, 2, 0, 5);
        x.pass(10);
        x.infect(1, 3);
        x.sell(1);
        int[] due = {1, -1, -1, 75, 0, 40, 10, 3, 1, -1, 35};
        for (int days = 0; days <= 100; days += 50) {
            for (int what = 0; what < due.length; what++) {
                Check.due("wheel(1, " + what + ") of a sold one", x.wheel(1, what), due[what]);
            }
            x.pass(50);
        }
        Check.due("its place", x.at(0, 5), -1);
        Check.due("sold ones", x.count(4), 1);
    }

    @Sentence(under = "Promise 8", words = "Returns the number.")
    private static void hireTellsTheNumber() {
        CheeseRota x = Dairies.withCellars(4);
        int[][] due = {{3, 1}, {0, 10}, {1, 2}, {1, 2}};
        for (int number = 0; number <= 3; number++) {
            Check.due("hire", x.hire(due[number][0], due[number][1]), number);
        }
        for (int number = 0; number <= 3; number++) {
            int[] fresh = {due[number][0], due[number][1], 0, -1, 0};
            for (int what = 0; what < fresh.length; what++) {
                Check.due("monk(" + number + ", " + what + ") of a new one", x.monk(number, what), fresh[what]);
            }
        }
    }

    @Sentence(under = "Promise 8", words = "- `hands`: on how many wheels this one works a day")
    private static void hireWithHands() {
        for (int hands = 1; hands <= 10; hands++) {
            CheeseRota x = Dairies.oneCellar(0, 9, 0, 1, 2, 3, 4, 5, 6, 7, 8, 9);
            Dairies.hire(x, 0, hands, Dairies.TURN);
            x.pass(1);
            Check.due("latest place of " + hands, x.monk(0, 3), hands - 1);
        }
    }

    @Sentence(under = "Promise 9", words = "Returns the work before.")
    private static void setRota() {
        CheeseRota x = Dairies.withMonks(2);
        for (int day = 0; day <= 6; day++) {
            Check.due("setRota from rest", x.setRota(0, day, 1 + day % 3), 0);
        }
        for (int day = 0; day <= 6; day++) {
            Check.due("setRota of the other monk", x.setRota(1, day, 0), 0);
            Check.due("setRota again", x.setRota(0, day, 3), 1 + day % 3);
            Check.due("setRota to rest", x.setRota(0, day, 0), 3);
            Check.due("setRota from rest to rest", x.setRota(0, day, 0), 0);
        }
    }

    @Sentence(under = "Promise 9", words = "- `day`: a day of the rota, 0 to 6")
    private static void setRotaOfOneDay() {
        for (int day = 0; day <= 6; day++) {
            CheeseRota x = Dairies.oneCellar(0, 9, 0);
            x.hire(0, 1);
            x.setRota(0, day, Dairies.SALT);
            for (int gone = 0; gone <= 13; gone++) {
                Check.due("work on the day " + gone, x.monk(0, 4), gone % 7 == day ? 2 : 0);
                x.pass(1);
                int due = gone < day ? 0 : gone < day + 7 ? 2 : 4;
                Check.due("salt behind the day " + gone, x.wheel(0, 4), due);
            }
        }
    }
}
