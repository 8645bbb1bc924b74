/** Dairies in the states that tests ask for, each made anew in less than 80 calls. */
final class Dairies {
    static final int REST = 0;
    static final int TURN = 1;
    static final int SALT = 2;
    static final int WASH = 3;

    private Dairies() {
    }

    static CheeseRota empty() {
        return new CheeseRota();
    }

    /** One cellar, with wheels 0, 1, .. at these places. */
    static CheeseRota oneCellar(int warmth, int damp, int... places) {
        CheeseRota x = new CheeseRota();
        x.build(warmth, damp);
        for (int place : places) {
            x.make(0, place);
        }
        return x;
    }

    static CheeseRota withCellars(int cellars) {
        CheeseRota x = new CheeseRota();
        for (int cellar = 0; cellar < cellars; cellar++) {
            x.build(cellar, 9 - cellar);
        }
        return x;
    }

    /** Three cellars, filled one behind the other. */
    static CheeseRota withWheels(int wheels) {
        CheeseRota x = withCellars(3);
        for (int wheel = 0; wheel < wheels; wheel++) {
            x.make(wheel / 10, wheel % 10);
        }
        return x;
    }

    /** Two cellars. */
    static CheeseRota withMonks(int monks) {
        CheeseRota x = withCellars(2);
        for (int monk = 0; monk < monks; monk++) {
            x.hire(monk % 2, 1 + monk);
        }
        return x;
    }

    /** Two cellars, two monks; the wheels 0 and 3 lie at (0, 0) and (1, 9), 1 was sold, 2 is lost. */
    static CheeseRota small() {
        CheeseRota x = new CheeseRota();
        x.build(9, 7);
        x.build(8, 3);
        x.make(0, 0);
        x.make(0, 1);
        x.make(1, 5);
        x.make(1, 9);
        x.infect(2, 3);
        x.pass(7);
        hire(x, 0, 2, SALT);
        hire(x, 1, 10, TURN);
        x.pass(1);
        x.sell(1);
        return x;
    }

    /**
     * Four cellars, 24 wheels, four monks: the board of the cellar 0 is full, the wheel 10 was sold,
     * 16 is lost, and the others lie.
     */
    static CheeseRota full() {
        CheeseRota x = new CheeseRota();
        x.build(3, 6);
        x.build(5, 4);
        x.build(7, 2);
        x.build(9, 0);
        for (int wheel = 0; wheel < 10; wheel++) {
            x.make(0, wheel);
        }
        for (int wheel = 10; wheel < 24; wheel++) {
            x.make(1 + (wheel - 10) / 5, (wheel - 10) % 5 * 2);
        }
        x.infect(3, 1);
        x.infect(12, 2);
        x.infect(16, 3);
        x.pass(7);
        for (int monk = 0; monk < 4; monk++) {
            x.hire(monk, 1 + 3 * monk);
            for (int day = 0; day < 7; day++) {
                x.setRota(monk, day, (monk + 2 * day + day / 3) % 4);
            }
        }
        x.pass(1);
        x.sell(10);
        return x;
    }

    /** Hires a monk who does this work on each day. */
    static int hire(CheeseRota x, int cellar, int hands, int work) {
        int monk = x.hire(cellar, hands);
        setAllDays(x, monk, work);
        return monk;
    }

    static void setAllDays(CheeseRota x, int monk, int work) {
        for (int day = 0; day < 7; day++) {
            x.setRota(monk, day, work);
        }
    }

    /** One cellar, with a wheel of this salt (an even one), and a monk who rests, at the place. */
    static CheeseRota salted(int salt, int warmth, int damp, int place) {
        CheeseRota x = oneCellar(warmth, damp, place);
        hire(x, 0, 1, SALT);
        if (salt > 0) {
            x.pass(salt / 2);
        }
        setAllDays(x, 0, REST);
        return x;
    }
}
