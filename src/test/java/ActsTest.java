/** Promises 1 to 9: a new object, build, air, make, carry, infect, sell, hire, setRota. */
public final class ActsTest {
    private static final int[] FAR = {-1, Integer.MIN_VALUE, Integer.MAX_VALUE};

    public static void main(String[] args) {
        newObject();
        build();
        air();
        make();
        carry();
        carryOfLost();
        infect();
        sell();
        hire();
        setRota();
        Check.end("ActsTest");
    }

    private static void newObject() {
        CheeseRota x = new CheeseRota();
        for (int what = 0; what <= 8; what++) {
            Check.due("count of a new object " + what, x.count(what), 0);
        }
        Check.noSuch(x, "cellar of a new object", () -> x.cellar(0, 0));
        Check.noSuch(x, "wheel of a new object", () -> x.wheel(0, 0));
        Check.noSuch(x, "monk of a new object", () -> x.monk(0, 0));
        Check.due("pass without anything", x.pass(100), 0);
        Check.due("day behind it", x.count(0), 100);
        Check.due("another object's day", new CheeseRota().count(0), 0);
    }

    private static void build() {
        CheeseRota x = new CheeseRota();
        int[] wrong = {-1, 10, Integer.MIN_VALUE, Integer.MAX_VALUE};
        for (int bad : wrong) {
            Check.badArgument(x, "build(bad, 0)", () -> x.build(bad, 0));
            Check.badArgument(x, "build(9, bad)", () -> x.build(9, bad));
        }
        Check.due("build 0", x.build(0, 9), 0);
        Check.due("build 1", x.build(9, 0), 1);
        Check.due("build 2", x.build(4, 6), 2);
        Check.due("build 3", x.build(5, 5), 3);
        Check.due("warmth 0", x.cellar(0, 0), 0);
        Check.due("damp 0", x.cellar(0, 1), 9);
        Check.due("warmth 1", x.cellar(1, 0), 9);
        Check.due("damp 1", x.cellar(1, 1), 0);
        Check.due("warmth 2", x.cellar(2, 0), 4);
        Check.due("damp 2", x.cellar(2, 1), 6);
        Check.due("cellars", x.count(1), 4);
        Check.badState(x, "build of a fifth", () -> x.build(1, 1));
        Check.badArgument(x, "build of a fifth with a wrong warmth", () -> x.build(10, 1));
        Check.badArgument(x, "build of a fifth with a wrong damp", () -> x.build(1, -1));
    }

    private static void air() {
        CheeseRota x = new CheeseRota();
        Check.noSuch(x, "air without cellars", () -> x.air(0, 0, 0));
        x.build(4, 7);
        x.build(8, 3);
        Check.due("air 0", x.air(0, 9, 0), 47);
        Check.due("air 0 again", x.air(0, 0, 9), 90);
        Check.due("air 0 a third time", x.air(0, 5, 5), 9);
        Check.due("air 1", x.air(1, 8, 3), 83);
        Check.due("warmth", x.cellar(0, 0), 5);
        Check.due("damp", x.cellar(0, 1), 5);
        int[] wrong = {-1, 10, Integer.MIN_VALUE, Integer.MAX_VALUE};
        for (int bad : wrong) {
            Check.badArgument(x, "air(1, bad, 0)", () -> x.air(1, bad, 0));
            Check.badArgument(x, "air(1, 0, bad)", () -> x.air(1, 0, bad));
        }
        for (int bad : FAR) {
            Check.noSuch(x, "air(bad, 0, 0)", () -> x.air(bad, 0, 0));
        }
        Check.noSuch(x, "air(2, 0, 0)", () -> x.air(2, 0, 0));
        Check.noSuch(x, "air(2, 10, 10)", () -> x.air(2, 10, 10));
    }

    private static void make() {
        CheeseRota x = new CheeseRota();
        Check.noSuch(x, "make without cellars", () -> x.make(0, 0));
        x.build(5, 5);
        x.build(5, 5);
        x.build(5, 5);
        Check.due("make at the first place", x.make(0, 0), 0);
        Check.due("make at the last place", x.make(0, 9), 1);
        int[] fresh = {0, 0, 9, 0, 0, 80, 0, 0, 0, -1, 0};
        for (int what = 0; what < fresh.length; what++) {
            Check.due("new wheel " + what, x.wheel(1, what), fresh[what]);
        }
        int[] wrong = {-1, 10, Integer.MIN_VALUE, Integer.MAX_VALUE};
        for (int bad : wrong) {
            Check.noSuch(x, "make(0, bad)", () -> x.make(0, bad));
        }
        for (int bad : FAR) {
            Check.noSuch(x, "make(bad, 0)", () -> x.make(bad, 0));
        }
        Check.noSuch(x, "make(3, 0)", () -> x.make(3, 0));
        Check.badState(x, "make where one lies", () -> x.make(0, 9));
        x.sell(0);
        Check.due("make where one was sold", x.make(0, 0), 2);
        for (int number = 3; number < 23; number++) {
            Check.due("make", x.make(1 + (number - 3) / 10, (number - 3) % 10), number);
        }
        Check.due("make of the last", x.make(0, 4), 23);
        Check.due("wheels", x.count(2), 24);
        Check.due("in cellars", x.count(3), 23);
        Check.badState(x, "make of a wheel too many", () -> x.make(0, 5));
        Check.noSuch(x, "make of one too many at no place", () -> x.make(0, 10));
        Check.noSuch(x, "make of one too many in no cellar", () -> x.make(3, 5));
    }

    private static void carry() {
        CheeseRota x = new CheeseRota();
        x.build(5, 5);
        x.build(6, 6);
        x.make(0, 3);
        x.make(1, 0);
        Check.due("carry within", x.carry(0, 0, 9), 3);
        Check.due("left", x.at(0, 3), -1);
        Check.due("come", x.at(0, 9), 0);
        Check.due("carry across", x.carry(0, 1, 7), 9);
        Check.due("carry back", x.carry(0, 0, 0), 17);
        Check.due("cellar of the carried", x.wheel(0, 1), 0);
        Check.due("place of the carried", x.wheel(0, 2), 0);
        Check.badState(x, "carry to a taken place", () -> x.carry(0, 1, 0));
        Check.badState(x, "carry to where it lies", () -> x.carry(0, 0, 0));
        for (int bad : FAR) {
            Check.noSuch(x, "carry(bad, 0, 1)", () -> x.carry(bad, 0, 1));
            Check.noSuch(x, "carry(0, bad, 1)", () -> x.carry(0, bad, 1));
            Check.noSuch(x, "carry(0, 0, bad)", () -> x.carry(0, 0, bad));
        }
        Check.noSuch(x, "carry(2, 0, 1)", () -> x.carry(2, 0, 1));
        Check.noSuch(x, "carry(0, 2, 1)", () -> x.carry(0, 2, 1));
        Check.noSuch(x, "carry(0, 0, 10)", () -> x.carry(0, 0, 10));
        x.sell(1);
        Check.badState(x, "carry of a sold one", () -> x.carry(1, 0, 5));
        Check.noSuch(x, "carry of a sold one to no place", () -> x.carry(1, 0, 10));
        Check.due("carry to where one was sold", x.carry(0, 1, 0), 0);
    }

    private static void carryOfLost() {
        CheeseRota x = new CheeseRota();
        x.build(0, 0);
        x.make(0, 4);
        Check.due("lost", x.pass(16), 1);
        Check.badState(x, "carry of a lost one", () -> x.carry(0, 0, 5));
        Check.badState(x, "sell of a lost one", () -> x.sell(0));
        Check.badState(x, "infect of a lost one", () -> x.infect(0, 1));
        Check.badArgument(x, "infect of a lost one with a wrong mould", () -> x.infect(0, 4));
        Check.due("make where one was lost", x.make(0, 4), 1);
    }

    private static void infect() {
        CheeseRota x = new CheeseRota();
        x.build(5, 5);
        x.make(0, 0);
        Check.due("infect with blue", x.infect(0, 2), 0);
        Check.due("mould", x.wheel(0, 7), 2);
        Check.due("growth", x.wheel(0, 8), 1);
        Check.due("source", x.wheel(0, 9), -1);
        x.pass(3);
        Check.due("grown", x.wheel(0, 8), 4);
        Check.due("infect with the same", x.infect(0, 2), 2);
        Check.due("growth anew", x.wheel(0, 8), 1);
        x.pass(1);
        Check.due("infect with black", x.infect(0, 3), 2);
        Check.due("mould in its place", x.wheel(0, 7), 3);
        Check.due("growth in its place", x.wheel(0, 8), 1);
        Check.due("infect with none", x.infect(0, 0), 3);
        Check.due("mould of none", x.wheel(0, 7), 0);
        Check.due("growth of none", x.wheel(0, 8), 0);
        Check.due("infect from none with none", x.infect(0, 0), 0);
        infectInPlaceOfOneWithASource();
        infectOfASaltedOne();
        for (int bad : FAR) {
            Check.noSuch(x, "infect(bad, 1)", () -> x.infect(bad, 1));
            Check.badArgument(x, "infect(0, bad)", () -> x.infect(0, bad));
        }
        Check.noSuch(x, "infect(1, 1)", () -> x.infect(1, 1));
        Check.noSuch(x, "infect(1, 4)", () -> x.infect(1, 4));
        Check.badArgument(x, "infect(0, 4)", () -> x.infect(0, 4));
        x.sell(0);
        Check.badState(x, "infect of a sold one", () -> x.infect(0, 1));
        Check.badArgument(x, "infect of a sold one with a wrong mould", () -> x.infect(0, 4));
    }

    private static void infectInPlaceOfOneWithASource() {
        CheeseRota x = new CheeseRota();
        x.build(5, 5);
        x.make(0, 0);
        x.make(0, 1);
        x.infect(0, 1);
        x.pass(5);
        Check.due("caught from", x.wheel(1, 9), 0);
        Check.due("infect over a leapt one", x.infect(1, 3), 1);
        Check.due("from nowhere", x.wheel(1, 9), -1);
        Check.due("growth from nowhere", x.wheel(1, 8), 1);
    }

    private static void infectOfASaltedOne() {
        CheeseRota x = new CheeseRota();
        x.build(5, 5);
        x.make(0, 0);
        x.hire(0, 1);
        for (int day = 0; day < 7; day++) {
            x.setRota(0, day, 2);
        }
        x.pass(10);
        Check.due("salt at most", x.wheel(0, 4), 20);
        Check.due("infect of a salted one", x.infect(0, 2), 0);
        Check.due("its mould", x.wheel(0, 7), 2);
    }

    private static void sell() {
        CheeseRota x = new CheeseRota();
        x.build(9, 2);
        x.make(0, 0);
        x.make(0, 5);
        x.pass(10);
        // 7 days of 9 and 3 of 4: ripeness 75; water 80 - 40
        Check.due("worth", x.wheel(0, 10), 75);
        x.infect(1, 1);
        Check.due("sell", x.sell(0), 75);
        Check.due("sell with white mould", x.sell(1), 85);
        Check.due("added", x.count(7), 160);
        Check.due("sold", x.count(4), 2);
        Check.due("its place is free", x.at(0, 0), -1);
        Check.due("worth as it was", x.wheel(1, 10), 85);
        x.pass(50);
        Check.due("a sold one ripens no more", x.wheel(0, 3), 75);
        Check.due("a sold one's mould grows no more", x.wheel(1, 8), 1);
        Check.badState(x, "sell twice", () -> x.sell(0));
        for (int bad : FAR) {
            Check.noSuch(x, "sell(bad)", () -> x.sell(bad));
        }
        Check.noSuch(x, "sell(2)", () -> x.sell(2));
    }

    private static void hire() {
        CheeseRota x = new CheeseRota();
        Check.noSuch(x, "hire without cellars", () -> x.hire(0, 1));
        x.build(5, 5);
        x.build(5, 5);
        Check.due("hire 0", x.hire(1, 1), 0);
        Check.due("hire 1", x.hire(0, 10), 1);
        int[] wrong = {0, -1, 11, Integer.MIN_VALUE, Integer.MAX_VALUE};
        for (int bad : wrong) {
            Check.badArgument(x, "hire(0, bad)", () -> x.hire(0, bad));
        }
        for (int bad : FAR) {
            Check.noSuch(x, "hire(bad, 1)", () -> x.hire(bad, 1));
        }
        Check.noSuch(x, "hire(2, 1)", () -> x.hire(2, 1));
        Check.noSuch(x, "hire(2, 0)", () -> x.hire(2, 0));
        Check.due("hire 2", x.hire(0, 2), 2);
        Check.due("hire 3", x.hire(0, 2), 3);
        Check.badState(x, "hire of a fifth", () -> x.hire(0, 2));
        Check.badArgument(x, "hire of a fifth without hands", () -> x.hire(0, 0));
        Check.noSuch(x, "hire of a fifth in no cellar", () -> x.hire(2, 0));
        int[] fresh = {1, 1, 0, -1, 0};
        for (int what = 0; what < fresh.length; what++) {
            Check.due("new monk " + what, x.monk(0, what), fresh[what]);
        }
    }

    private static void setRota() {
        CheeseRota x = new CheeseRota();
        x.build(5, 5);
        Check.noSuch(x, "setRota without monks", () -> x.setRota(0, 0, 0));
        x.hire(0, 1);
        x.hire(0, 1);
        for (int day = 0; day < 7; day++) {
            Check.due("setRota from rest", x.setRota(0, day, 1 + day % 3), 0);
        }
        for (int day = 0; day < 7; day++) {
            Check.due("another monk's rota", x.setRota(1, day, 0), 0);
            Check.due("setRota again", x.setRota(0, day, 3), 1 + day % 3);
        }
        Check.due("setRota to rest", x.setRota(0, 6, 0), 3);
        int[] wrong = {-1, 7, Integer.MIN_VALUE, Integer.MAX_VALUE};
        for (int bad : wrong) {
            Check.noSuch(x, "setRota(0, bad, 0)", () -> x.setRota(0, bad, 0));
        }
        for (int bad : FAR) {
            Check.noSuch(x, "setRota(bad, 0, 0)", () -> x.setRota(bad, 0, 0));
            Check.badArgument(x, "setRota(0, 0, bad)", () -> x.setRota(0, 0, bad));
        }
        Check.noSuch(x, "setRota(2, 0, 0)", () -> x.setRota(2, 0, 0));
        Check.badArgument(x, "setRota(1, 6, 4)", () -> x.setRota(1, 6, 4));
        Check.noSuch(x, "setRota(2, 0, 4)", () -> x.setRota(2, 0, 4));
        Check.noSuch(x, "setRota(0, 7, 4)", () -> x.setRota(0, 7, 4));
    }
}
