import java.util.ArrayList;
import java.util.List;

/**
 * The document told a second time, in another form than the class under test: a state is a value
 * that is copied whole, and each step of a day reads the copy from ahead of it.
 */
final class Oracle {
    record Mould(int kind, int growth, int source) {
        static final Mould NONE = new Mould(0, 0, -1);
    }

    static final class Wheel {
        int fate = 0;
        int cellar;
        int place;
        int ripeness = 0;
        int salt = 0;
        int water = 80;
        int idle = 0;
        Mould mould = Mould.NONE;

        Wheel(int cellar, int place) {
            this.cellar = cellar;
            this.place = place;
        }

        Wheel copy() {
            Wheel w = new Wheel(cellar, place);
            w.fate = fate;
            w.ripeness = ripeness;
            w.salt = salt;
            w.water = water;
            w.idle = idle;
            w.mould = mould;
            return w;
        }

        boolean catches() {
            return mould.kind() == 0 && salt <= 7;
        }

        int worth() {
            int bonus = switch (mould.kind()) {
                case 1 -> 10;
                case 2 -> mould.growth() > 2 && mould.growth() < 7 ? 30 : 0;
                case 3 -> -40;
                default -> 0;
            };
            int differs = water > 40 ? water - 40 : 40 - water;
            int sum = ripeness + bonus - differs;
            return sum < 0 ? 0 : sum;
        }

        int[] facts() {
            boolean lies = fate == 0;
            return new int[] {fate, lies ? cellar : -1, lies ? place : -1, ripeness, salt, water, idle,
                mould.kind(), mould.growth(), mould.source(), worth()};
        }
    }

    static final class Monk {
        final int cellar;
        final int hands;
        int onHands = 0;
        int latest = -1;
        int[] rota = new int[7];

        Monk(int cellar, int hands) {
            this.cellar = cellar;
            this.hands = hands;
        }

        Monk copy() {
            Monk m = new Monk(cellar, hands);
            m.onHands = onHands;
            m.latest = latest;
            m.rota = rota.clone();
            return m;
        }
    }

    private int day = 0;
    private int sales = 0;
    private final List<int[]> cellars = new ArrayList<>();
    private final List<Wheel> wheels = new ArrayList<>();
    private final List<Monk> monks = new ArrayList<>();

    private Oracle copy() {
        Oracle o = new Oracle();
        o.day = day;
        o.sales = sales;
        cellars.forEach(c -> o.cellars.add(c.clone()));
        wheels.forEach(w -> o.wheels.add(w.copy()));
        monks.forEach(m -> o.monks.add(m.copy()));
        return o;
    }

    private static void bounds(boolean holds) {
        if (!holds) {
            throw new IndexOutOfBoundsException();
        }
    }

    private static void argument(boolean holds) {
        if (!holds) {
            throw new IllegalArgumentException();
        }
    }

    private static void state(boolean holds) {
        if (!holds) {
            throw new IllegalStateException();
        }
    }

    private static boolean in(int x, int least, int most) {
        return least <= x && x <= most;
    }

    private Wheel lying(int cellar, int place) {
        for (Wheel w : wheels) {
            if (w.fate == 0 && w.cellar == cellar && w.place == place) {
                return w;
            }
        }
        return null;
    }

    int build(int warmth, int damp) {
        argument(in(warmth, 0, 9) && in(damp, 0, 9));
        state(cellars.size() < 4);
        cellars.add(new int[] {warmth, damp});
        return cellars.size() - 1;
    }

    int air(int cellar, int warmth, int damp) {
        bounds(in(cellar, 0, cellars.size() - 1));
        argument(in(warmth, 0, 9) && in(damp, 0, 9));
        int[] old = cellars.set(cellar, new int[] {warmth, damp});
        return 10 * old[0] + old[1];
    }

    int make(int cellar, int place) {
        bounds(in(cellar, 0, cellars.size() - 1) && in(place, 0, 9));
        state(wheels.size() < 24 && lying(cellar, place) == null);
        wheels.add(new Wheel(cellar, place));
        return wheels.size() - 1;
    }

    int carry(int wheel, int cellar, int place) {
        bounds(in(wheel, 0, wheels.size() - 1) && in(cellar, 0, cellars.size() - 1) && in(place, 0, 9));
        Wheel w = wheels.get(wheel);
        state(w.fate == 0 && lying(cellar, place) == null);
        int from = 10 * w.cellar + w.place;
        w.cellar = cellar;
        w.place = place;
        return from;
    }

    int infect(int wheel, int mould) {
        bounds(in(wheel, 0, wheels.size() - 1));
        argument(in(mould, 0, 3));
        Wheel w = wheels.get(wheel);
        state(w.fate == 0);
        int before = w.mould.kind();
        w.mould = mould == 0 ? Mould.NONE : new Mould(mould, 1, -1);
        return before;
    }

    int sell(int wheel) {
        bounds(in(wheel, 0, wheels.size() - 1));
        Wheel w = wheels.get(wheel);
        state(w.fate == 0);
        w.fate = 1;
        sales += w.worth();
        return w.worth();
    }

    int hire(int cellar, int hands) {
        bounds(in(cellar, 0, cellars.size() - 1));
        argument(in(hands, 1, 10));
        state(monks.size() < 4);
        monks.add(new Monk(cellar, hands));
        return monks.size() - 1;
    }

    int setRota(int monk, int day, int work) {
        bounds(in(monk, 0, monks.size() - 1) && in(day, 0, 6));
        argument(in(work, 0, 3));
        int[] rota = monks.get(monk).rota;
        int before = rota[day];
        rota[day] = work;
        return before;
    }

    int wheel(int wheel, int what) {
        bounds(in(wheel, 0, wheels.size() - 1) && in(what, 0, 10));
        return wheels.get(wheel).facts()[what];
    }

    int cellar(int cellar, int what) {
        bounds(in(cellar, 0, cellars.size() - 1) && in(what, 0, 3));
        int lying = 0;
        int mouldy = 0;
        for (int place = 0; place < 10; place++) {
            Wheel w = lying(cellar, place);
            lying += w == null ? 0 : 1;
            mouldy += w == null || w.mould.kind() == 0 ? 0 : 1;
        }
        return new int[] {cellars.get(cellar)[0], cellars.get(cellar)[1], lying, mouldy}[what];
    }

    int at(int cellar, int place) {
        bounds(in(cellar, 0, cellars.size() - 1) && in(place, 0, 9));
        return wheels.indexOf(lying(cellar, place));
    }

    int monk(int monk, int what) {
        bounds(in(monk, 0, monks.size() - 1) && in(what, 0, 4));
        Monk m = monks.get(monk);
        return new int[] {m.cellar, m.hands, m.onHands, m.latest, m.rota[day % 7]}[what];
    }

    private int fates(int fate) {
        return (int) wheels.stream().filter(w -> w.fate == fate).count();
    }

    private int mouldy() {
        return (int) wheels.stream().filter(w -> w.fate == 0 && w.mould.kind() > 0).count();
    }

    private int worthOfLying() {
        return wheels.stream().filter(w -> w.fate == 0).mapToInt(Wheel::worth).sum();
    }

    int count(int what) {
        bounds(in(what, 0, 8));
        return new int[] {day, cellars.size(), wheels.size(), fates(0), fates(1), fates(2), mouldy(), sales,
            monks.size()}[what];
    }

    int pass(int days) {
        argument(in(days, 1, 100));
        int before = fates(2);
        for (int i = 0; i < days; i++) {
            oneDay();
        }
        return fates(2) - before;
    }

    private int worthAhead(int wheel) {
        Wheel w = wheels.get(wheel);
        return w.fate == 0 ? w.worth() : 0;
    }

    int best(int wheel) {
        bounds(in(wheel, 0, wheels.size() - 1));
        if (wheels.get(wheel).fate != 0) {
            return -1;
        }
        int best = 0;
        int[] worth = new int[61];
        Oracle o = copy();
        for (int days = 0; days <= 60; days++) {
            worth[days] = o.worthAhead(wheel);
            best = worth[days] > worth[best] ? days : best;
            o.oneDay();
        }
        return best;
    }

    int foresee(int days, int what) {
        argument(in(days, 1, 100));
        bounds(in(what, 0, 2));
        Oracle o = copy();
        o.pass(days);
        return new int[] {o.fates(2), o.mouldy(), o.worthOfLying()}[what];
    }

    int advise(int wheel, int days) {
        bounds(in(wheel, 0, wheels.size() - 1));
        argument(in(days, 1, 40));
        if (wheels.get(wheel).fate != 0) {
            return -1;
        }
        int best = -1;
        int most = -1;
        for (int cellar = cellars.size() - 1; cellar >= 0; cellar--) {
            int worth = worthIn(wheel, cellar, days);
            if (worth >= most && worth >= 0) {
                best = cellar;
                most = worth;
            }
        }
        return best;
    }

    private int worthIn(int wheel, int cellar, int days) {
        Oracle o = copy();
        if (wheels.get(wheel).cellar != cellar) {
            int place = 0;
            while (place < 10 && lying(cellar, place) != null) {
                place++;
            }
            if (place == 10) {
                return -1;
            }
            o.carry(wheel, cellar, place);
        }
        o.pass(days);
        return o.worthAhead(wheel);
    }

    double mean() {
        return fates(0) == 0 ? 0 : (double) worthOfLying() / fates(0);
    }

    long digest() {
        List<Integer> all = new ArrayList<>();
        for (int what = 0; what <= 8; what++) {
            all.add(count(what));
        }
        for (int cellar = 0; cellar < cellars.size(); cellar++) {
            for (int what = 0; what <= 3; what++) {
                all.add(cellar(cellar, what));
            }
        }
        for (Wheel w : wheels) {
            for (int fact : w.facts()) {
                all.add(fact);
            }
        }
        for (int monk = 0; monk < monks.size(); monk++) {
            for (int what = 0; what <= 4; what++) {
                all.add(monk(monk, what));
            }
            for (int work : monks.get(monk).rota) {
                all.add(work);
            }
        }
        long d = 937;
        for (int x : all) {
            d = d * 31 + x;
        }
        return d;
    }

    private void oneDay() {
        for (int monk = 0; monk < monks.size(); monk++) {
            workOf(monk);
        }
        leap();
        for (Wheel w : wheels) {
            if (w.fate == 0) {
                age(w);
            }
        }
        day++;
    }

    private void workOf(int number) {
        Monk m = monks.get(number);
        int work = m.rota[day % 7];
        if (work == 0) {
            m.onHands = 0;
            return;
        }
        List<Wheel> way = new ArrayList<>();
        for (int place = m.latest + 1; place < 10; place++) {
            way.add(lying(m.cellar, place));
        }
        for (int place = 0; place <= m.latest; place++) {
            way.add(lying(m.cellar, place));
        }
        way.removeIf(w -> w == null);
        for (Wheel w : way.subList(0, Math.min(m.hands, way.size()))) {
            workOn(w, work);
            if (w.mould.growth() >= 4) {
                m.onHands = w.mould.kind();
            } else if (m.onHands > 0 && w.catches()) {
                w.mould = new Mould(m.onHands, 1, 100 + number);
            }
            m.latest = w.place;
        }
    }

    private static void workOn(Wheel w, int work) {
        switch (work) {
            case 1 -> w.idle = 0;
            case 2 -> w.salt = w.salt > 18 ? 20 : w.salt + 2;
            default -> {
                int left = w.mould.growth() - 3;
                w.mould = left <= 0 ? Mould.NONE : new Mould(w.mould.kind(), left, w.mould.source());
            }
        }
    }

    private void leap() {
        Oracle before = copy();
        for (int number = 0; number < wheels.size(); number++) {
            Wheel w = before.wheels.get(number);
            if (w.fate != 0 || !w.catches()) {
                continue;
            }
            int least = cellars.get(w.cellar)[1] >= 6 ? 3 : 5;
            for (int side = 1; side >= -1; side -= 2) {
                Wheel from = before.lying(w.cellar, w.place + side);
                if (from != null && from.mould.growth() >= least) {
                    wheels.get(number).mould = new Mould(from.mould.kind(), 1, before.wheels.indexOf(from));
                }
            }
        }
    }

    private void age(Wheel w) {
        int warmth = cellars.get(w.cellar)[0];
        int damp = cellars.get(w.cellar)[1];
        if (w.mould.kind() > 0 && w.salt < 12) {
            int growth = w.mould.growth() + 1 + (damp >= 6 ? 1 : 0);
            w.mould = new Mould(w.mould.kind(), growth > 9 ? 9 : growth, w.mould.source());
        }
        w.ripeness += w.idle < 7 ? warmth : warmth / 2;
        w.ripeness = w.ripeness > 100 ? 100 : w.ripeness;
        w.water -= (10 - damp) / 2;
        w.water = w.water < 0 ? 0 : w.water;
        w.idle++;
        if (w.water == 0 || w.mould.kind() == 3 && w.mould.growth() == 9) {
            w.fate = 2;
        }
    }
}
