/** Promises 10 to 14, 19 and 20: wheel, cellar, at, monk, count, mean, digest; and the worth. */
public final class LooksTest {
    private static final int[] FAR = {-1, Integer.MIN_VALUE, Integer.MAX_VALUE};

    public static void main(String[] args) {
        wheel();
        worthByMould();
        worthByWater();
        cellar();
        at();
        monk();
        count();
        mean();
        digestOfNothing();
        digest();
        Check.end("LooksTest");
    }

    private static void facts(String told, CheeseRota x, int wheel, int... due) {
        for (int what = 0; what < due.length; what++) {
            Check.due(told + ", fact " + what, x.wheel(wheel, what), due[what]);
        }
    }

    private static void wheel() {
        CheeseRota x = new CheeseRota();
        x.build(6, 5);
        x.build(4, 6);
        x.make(1, 4);
        x.make(0, 2);
        x.make(0, 3);
        x.infect(1, 2);
        facts("new", x, 1, 0, 0, 2, 0, 0, 80, 0, 2, 1, -1, 0);
        x.pass(6);
        // 6 days: ripeness 36, water 80 - 12, growth 7; its neighbour caught it on the fifth
        facts("with mould", x, 1, 0, 0, 2, 36, 0, 68, 6, 2, 7, -1, 8);
        facts("its neighbour", x, 2, 0, 0, 3, 36, 0, 68, 6, 2, 3, 1, 38);
        facts("in the other cellar", x, 0, 0, 1, 4, 24, 0, 68, 6, 0, 0, -1, 0);
        x.sell(2);
        facts("sold", x, 2, 1, -1, -1, 36, 0, 68, 6, 2, 3, 1, 38);
        x.infect(0, 3);
        Check.due("lost in 4 days", x.pass(4), 1);
        facts("lost", x, 0, 2, -1, -1, 24 + 4 + 2 * 3, 0, 60, 10, 3, 9, -1, 0);
        for (int bad : FAR) {
            Check.noSuch(x, "wheel(bad, 0)", () -> x.wheel(bad, 0));
            Check.noSuch(x, "wheel(0, bad)", () -> x.wheel(0, bad));
        }
        Check.noSuch(x, "wheel(3, 0)", () -> x.wheel(3, 0));
        Check.noSuch(x, "wheel(0, 11)", () -> x.wheel(0, 11));
    }

    /** A wheel with a ripeness of 100 and a water of 40. */
    private static CheeseRota ripe() {
        CheeseRota x = new CheeseRota();
        x.build(9, 9);
        x.make(0, 0);
        x.pass(7);
        x.pass(20);
        x.air(0, 9, 2);
        x.pass(10);
        return x;
    }

    private static void worthByMould() {
        CheeseRota x = ripe();
        Check.due("ripeness at most", x.wheel(0, 3), 100);
        Check.due("water", x.wheel(0, 5), 40);
        Check.due("worth without mould", x.wheel(0, 10), 100);
        x.infect(0, 1);
        Check.due("worth with white mould", x.wheel(0, 10), 110);
        x.infect(0, 3);
        Check.due("worth with black mould", x.wheel(0, 10), 60);
        x.infect(0, 2);
        x.air(0, 9, 5);
        int[] blue = {100, 98, 126, 124, 122, 120, 88, 86, 84, 82};
        for (int day = 0; day < blue.length; day++) {
            Check.due("growth", x.wheel(0, 8), Math.min(9, 1 + day));
            Check.due("worth with blue mould of growth " + (1 + day), x.wheel(0, 10), blue[day]);
            x.pass(1);
        }
    }

    private static void worthByWater() {
        CheeseRota x = ripe();
        x.air(0, 9, 8);
        x.pass(1);
        Check.due("worth with a water of 39", x.wheel(0, 10), 99);
        x.pass(38);
        Check.due("worth with a water of 1", x.wheel(0, 10), 61);
        Check.due("lost without water", x.pass(1), 1);
        Check.due("worth with a water of 0", x.wheel(0, 10), 60);
        CheeseRota y = new CheeseRota();
        y.build(9, 9);
        y.make(0, 0);
        y.pass(4);
        Check.due("worth is at least 0", y.wheel(0, 10), 0);
        y.pass(1);
        Check.due("worth with a water of 80", y.wheel(0, 10), 5);
        y.infect(0, 3);
        Check.due("worth with black mould is at least 0", y.wheel(0, 10), 0);
    }

    private static void cellar() {
        CheeseRota x = new CheeseRota();
        x.build(3, 8);
        x.build(7, 1);
        x.make(0, 0);
        x.make(0, 9);
        x.make(1, 5);
        x.infect(1, 2);
        x.infect(2, 3);
        int[][] due = {{3, 8, 2, 1}, {7, 1, 1, 1}};
        for (int number = 0; number < 2; number++) {
            for (int what = 0; what < 4; what++) {
                Check.due("cellar " + number + " " + what, x.cellar(number, what), due[number][what]);
            }
        }
        x.sell(2);
        Check.due("wheels behind a sale", x.cellar(1, 2), 0);
        Check.due("mouldy ones behind a sale", x.cellar(1, 3), 0);
        x.carry(1, 1, 0);
        Check.due("wheels behind a carrying", x.cellar(1, 2), 1);
        Check.due("mouldy ones behind a carrying", x.cellar(0, 3), 0);
        for (int bad : FAR) {
            Check.noSuch(x, "cellar(bad, 0)", () -> x.cellar(bad, 0));
            Check.noSuch(x, "cellar(0, bad)", () -> x.cellar(0, bad));
        }
        Check.noSuch(x, "cellar(2, 0)", () -> x.cellar(2, 0));
        Check.noSuch(x, "cellar(0, 4)", () -> x.cellar(0, 4));
    }

    private static void at() {
        CheeseRota x = new CheeseRota();
        Check.noSuch(x, "at without cellars", () -> x.at(0, 0));
        x.build(0, 0);
        x.build(0, 9);
        x.make(1, 0);
        x.make(0, 9);
        for (int place = 0; place < 10; place++) {
            Check.due("at(0, " + place + ")", x.at(0, place), place == 9 ? 1 : -1);
            Check.due("at(1, " + place + ")", x.at(1, place), place == 0 ? 0 : -1);
        }
        x.pass(16);
        Check.due("at the place of a lost one", x.at(0, 9), -1);
        Check.due("at the place of one not lost", x.at(1, 0), 0);
        x.sell(0);
        Check.due("at the place of a sold one", x.at(1, 0), -1);
        for (int bad : FAR) {
            Check.noSuch(x, "at(bad, 0)", () -> x.at(bad, 0));
            Check.noSuch(x, "at(0, bad)", () -> x.at(0, bad));
        }
        Check.noSuch(x, "at(2, 0)", () -> x.at(2, 0));
        Check.noSuch(x, "at(0, 10)", () -> x.at(0, 10));
    }

    private static void monk() {
        CheeseRota x = new CheeseRota();
        x.build(5, 5);
        x.build(5, 5);
        x.make(1, 6);
        x.hire(1, 7);
        x.setRota(0, 0, 3);
        x.setRota(0, 6, 2);
        x.infect(0, 3);
        int[] fresh = {1, 7, 0, -1, 3};
        for (int what = 0; what < 5; what++) {
            Check.due("monk, fact " + what, x.monk(0, what), fresh[what]);
        }
        x.pass(1);
        Check.due("latest place", x.monk(0, 3), 6);
        Check.due("work of the day 1", x.monk(0, 4), 0);
        x.infect(0, 3);
        x.pass(5);
        Check.due("work of the day 6", x.monk(0, 4), 2);
        Check.due("hands of a resting one", x.monk(0, 2), 0);
        x.pass(1);
        Check.due("mould on the hands", x.monk(0, 2), 3);
        Check.due("work of the day 7", x.monk(0, 4), 3);
        for (int bad : FAR) {
            Check.noSuch(x, "monk(bad, 0)", () -> x.monk(bad, 0));
            Check.noSuch(x, "monk(0, bad)", () -> x.monk(0, bad));
        }
        Check.noSuch(x, "monk(1, 0)", () -> x.monk(1, 0));
        Check.noSuch(x, "monk(0, 5)", () -> x.monk(0, 5));
    }

    private static void count() {
        CheeseRota x = new CheeseRota();
        x.build(9, 2);
        x.build(0, 0);
        x.make(0, 0);
        x.make(0, 5);
        x.make(0, 9);
        x.make(1, 0);
        x.hire(0, 1);
        x.pass(16);
        x.make(1, 1);
        x.infect(1, 2);
        x.infect(2, 1);
        // 7 days of 9 and 9 of 4: 99; water 80 - 64
        Check.due("worth", x.sell(0), 75);
        x.infect(4, 1);
        x.sell(2);
        int[] due = {16, 2, 5, 2, 2, 1, 2, 75 + 85, 1};
        for (int what = 0; what < due.length; what++) {
            Check.due("count " + what, x.count(what), due[what]);
        }
        for (int bad : FAR) {
            Check.noSuch(x, "count(bad)", () -> x.count(bad));
        }
        Check.noSuch(x, "count(9)", () -> x.count(9));
    }

    private static void mean() {
        CheeseRota x = new CheeseRota();
        Check.due("mean of nothing", x.mean(), 0.0);
        x.build(9, 2);
        x.build(0, 9);
        x.make(0, 0);
        x.pass(10);
        Check.due("mean of one", x.mean(), 75.0);
        x.make(1, 0);
        Check.due("mean of two", x.mean(), 37.5);
        x.make(1, 1);
        x.infect(0, 1);
        Check.due("mean of three", x.mean(), 85.0 / 3);
        x.sell(0);
        Check.due("mean without the sold one", x.mean(), 0.0);
        x.sell(1);
        x.sell(2);
        Check.due("mean when all are sold", x.mean(), 0.0);
    }

    private static void digestOfNothing() {
        long d = 937;
        for (int what = 0; what < 9; what++) {
            d = d * 31;
        }
        Check.due("digest of a new object", new CheeseRota().digest(), d);
    }

    private static long digestByLooks(CheeseRota x, int[][] rotas) {
        long d = 937;
        for (int what = 0; what <= 8; what++) {
            d = d * 31 + x.count(what);
        }
        for (int cellar = 0; cellar < x.count(1); cellar++) {
            for (int what = 0; what <= 3; what++) {
                d = d * 31 + x.cellar(cellar, what);
            }
        }
        for (int wheel = 0; wheel < x.count(2); wheel++) {
            for (int what = 0; what <= 10; what++) {
                d = d * 31 + x.wheel(wheel, what);
            }
        }
        for (int monk = 0; monk < x.count(8); monk++) {
            for (int what = 0; what <= 4; what++) {
                d = d * 31 + x.monk(monk, what);
            }
            for (int work : rotas[monk]) {
                d = d * 31 + work;
            }
        }
        return d;
    }

    private static void digest() {
        CheeseRota x = new CheeseRota();
        int[][] rotas = {{1, 2, 3, 0, 1, 2, 3}, {3, 0, 0, 0, 0, 0, 2}};
        x.build(4, 7);
        Check.due("digest of a cellar", x.digest(), digestByLooks(x, rotas));
        x.build(8, 3);
        x.make(0, 2);
        x.make(1, 3);
        x.make(1, 4);
        Check.due("digest with wheels", x.digest(), digestByLooks(x, rotas));
        for (int monk = 0; monk < rotas.length; monk++) {
            x.hire(1 - monk, 2);
            for (int day = 0; day < 7; day++) {
                x.setRota(monk, day, rotas[monk][day]);
            }
        }
        x.infect(1, 3);
        Check.due("digest with monks", x.digest(), digestByLooks(x, rotas));
        for (int day = 0; day < 12; day++) {
            x.pass(1);
            Check.due("digest of a day", x.digest(), digestByLooks(x, rotas));
        }
        x.sell(0);
        Check.due("digest behind a sale", x.digest(), digestByLooks(x, rotas));
    }
}
