/** Cheeses in cellars: a dairy whose wheels ripen, mould and are tended by monks, day by day. */
public final class CheeseRota {
    private static final int MOST_CELLARS = 4;
    private static final int MOST_WHEELS = 24;
    private static final int MOST_MONKS = 4;
    private static final int PLACES = 10;
    private static final int ROTA_DAYS = 7;
    private static final int NONE = -1;

    private static final int IN_CELLAR = 0;
    private static final int SOLD = 1;
    private static final int LOST = 2;

    private static final int NO_MOULD = 0;
    private static final int WHITE = 1;
    private static final int BLUE = 2;
    private static final int BLACK = 3;
    private static final int MOST_GROWTH = 9;

    private static final int REST = 0;
    private static final int TURN = 1;
    private static final int SALT = 2;
    private static final int WASH = 3;

    private static final int FROM_MONK = 100;
    private static final int DAYS_OF_BEST = 60;
    private static final int DAYS_OF_FORESEE = 100;
    private static final int DAYS_OF_ADVISE = 40;
    private static final int DAYS_OF_PASS = 100;

    private static final int WHEEL_FACTS = 11;
    private static final int CELLAR_FACTS = 4;
    private static final int MONK_FACTS = 5;
    private static final int COUNTS = 9;

    private final Dairy now = new Dairy();
    /** Looking ahead happens in this copy, which is made once, so that no call makes objects. */
    private final Dairy ahead = new Dairy();

    public CheeseRota() {
    }

    // ---- cellars, wheels, monks

    public int build(int warmth, int damp) throws IllegalArgumentException, IllegalStateException {
        if (!isWithin(warmth, 0, 9) || !isWithin(damp, 0, 9)) {
            throw new IllegalArgumentException("warmth or damp is not 0 to 9");
        }
        if (now.cellarCount >= MOST_CELLARS) {
            throw new IllegalStateException("there are 4 cellars");
        }
        return now.addCellar(warmth, damp);
    }

    public int air(int cellar, int warmth, int damp) throws IndexOutOfBoundsException, IllegalArgumentException {
        Cellar aired = now.cellarOf(cellar);
        if (aired == null) {
            throw new IndexOutOfBoundsException("no such cellar");
        }
        if (!isWithin(warmth, 0, 9) || !isWithin(damp, 0, 9)) {
            throw new IllegalArgumentException("warmth or damp is not 0 to 9");
        }
        int before = 10 * aired.warmth + aired.damp;
        aired.warmth = warmth;
        aired.damp = damp;
        return before;
    }

    public int make(int cellar, int place) throws IndexOutOfBoundsException, IllegalStateException {
        Cellar target = now.cellarOf(cellar);
        if (target == null || !isPlace(place)) {
            throw new IndexOutOfBoundsException("no such cellar or place");
        }
        if (now.wheelCount >= MOST_WHEELS || target.wheelAt(place) != NONE) {
            throw new IllegalStateException("there are 24 wheels, or one lies there");
        }
        return now.addWheel(cellar, place);
    }

    public int carry(int wheel, int cellar, int place) throws IndexOutOfBoundsException, IllegalStateException {
        Cellar target = now.cellarOf(cellar);
        if (now.wheelOf(wheel) == null || target == null || !isPlace(place)) {
            throw new IndexOutOfBoundsException("no such wheel, cellar or place");
        }
        Wheel carried = now.lyingWheel(wheel);
        if (carried == null || target.wheelAt(place) != NONE) {
            throw new IllegalStateException("it lies in no cellar, or one lies there");
        }
        int from = 10 * carried.cellar + carried.place;
        now.moveWheel(wheel, cellar, place);
        return from;
    }

    public int infect(int wheel, int mould)
            throws IndexOutOfBoundsException, IllegalArgumentException, IllegalStateException {
        if (now.wheelOf(wheel) == null) {
            throw new IndexOutOfBoundsException("no such wheel");
        }
        if (!isWithin(mould, NO_MOULD, BLACK)) {
            throw new IllegalArgumentException("mould is not 0 to 3");
        }
        Wheel infected = now.lyingWheel(wheel);
        if (infected == null) {
            throw new IllegalStateException("it lies in no cellar");
        }
        int before = infected.mould;
        infected.takeMould(mould, NONE);
        return before;
    }

    public int sell(int wheel) throws IndexOutOfBoundsException, IllegalStateException {
        if (now.wheelOf(wheel) == null) {
            throw new IndexOutOfBoundsException("no such wheel");
        }
        Wheel sold = now.lyingWheel(wheel);
        if (sold == null) {
            throw new IllegalStateException("it lies in no cellar");
        }
        int worth = sold.worth();
        now.soldWorth += worth;
        now.takeAway(wheel, SOLD);
        return worth;
    }

    public int hire(int cellar, int hands)
            throws IndexOutOfBoundsException, IllegalArgumentException, IllegalStateException {
        if (now.cellarOf(cellar) == null) {
            throw new IndexOutOfBoundsException("no such cellar");
        }
        if (!isWithin(hands, 1, 10)) {
            throw new IllegalArgumentException("hands is not 1 to 10");
        }
        if (now.monkCount >= MOST_MONKS) {
            throw new IllegalStateException("there are 4 monks");
        }
        return now.addMonk(cellar, hands);
    }

    public int setRota(int monk, int day, int work) throws IndexOutOfBoundsException, IllegalArgumentException {
        Monk told = now.monkOf(monk);
        if (told == null || !isWithin(day, 0, ROTA_DAYS - 1)) {
            throw new IndexOutOfBoundsException("no such monk, or day is not 0 to 6");
        }
        if (!isWithin(work, REST, WASH)) {
            throw new IllegalArgumentException("work is not 0 to 3");
        }
        int before = told.workOn(day);
        told.putWork(day, work);
        return before;
    }

    // ---- what is there

    public int wheel(int wheel, int what) throws IndexOutOfBoundsException {
        Wheel asked = now.wheelOf(wheel);
        if (asked == null || !isWithin(what, 0, WHEEL_FACTS - 1)) {
            throw new IndexOutOfBoundsException("no such wheel, or what is not 0 to 10");
        }
        return asked.fact(what);
    }

    public int cellar(int cellar, int what) throws IndexOutOfBoundsException {
        if (now.cellarOf(cellar) == null || !isWithin(what, 0, CELLAR_FACTS - 1)) {
            throw new IndexOutOfBoundsException("no such cellar, or what is not 0 to 3");
        }
        return now.cellarFact(cellar, what);
    }

    public int at(int cellar, int place) throws IndexOutOfBoundsException {
        Cellar asked = now.cellarOf(cellar);
        if (asked == null || !isPlace(place)) {
            throw new IndexOutOfBoundsException("no such cellar or place");
        }
        return asked.wheelAt(place);
    }

    public int monk(int monk, int what) throws IndexOutOfBoundsException {
        Monk asked = now.monkOf(monk);
        if (asked == null || !isWithin(what, 0, MONK_FACTS - 1)) {
            throw new IndexOutOfBoundsException("no such monk, or what is not 0 to 4");
        }
        return asked.fact(what, now.day);
    }

    public int count(int what) throws IndexOutOfBoundsException {
        if (!isWithin(what, 0, COUNTS - 1)) {
            throw new IndexOutOfBoundsException("what is not 0 to 8");
        }
        return now.fact(what);
    }

    // ---- days and looking ahead

    public int pass(int days) throws IllegalArgumentException {
        if (!isWithin(days, 1, DAYS_OF_PASS)) {
            throw new IllegalArgumentException("days is not 1 to 100");
        }
        int lostBefore = now.wheelsBeing(LOST);
        now.letDaysGoBy(days);
        return now.wheelsBeing(LOST) - lostBefore;
    }

    public int best(int wheel) throws IndexOutOfBoundsException {
        if (now.wheelOf(wheel) == null) {
            throw new IndexOutOfBoundsException("no such wheel");
        }
        if (now.lyingWheel(wheel) == null) {
            return NONE;
        }
        ahead.copyFrom(now);
        int bestDays = 0;
        int most = ahead.worthOfLying(wheel);
        for (int days = 1; days <= DAYS_OF_BEST; days++) {
            ahead.letDaysGoBy(1);
            int worth = ahead.worthOfLying(wheel);
            if (worth > most) {
                most = worth;
                bestDays = days;
            }
        }
        return bestDays;
    }

    public int foresee(int days, int what) throws IllegalArgumentException, IndexOutOfBoundsException {
        if (!isWithin(days, 1, DAYS_OF_FORESEE)) {
            throw new IllegalArgumentException("days is not 1 to 100");
        }
        if (!isWithin(what, 0, 2)) {
            throw new IndexOutOfBoundsException("what is not 0 to 2");
        }
        ahead.copyFrom(now);
        ahead.letDaysGoBy(days);
        switch (what) {
            case 0: return ahead.wheelsBeing(LOST);
            case 1: return ahead.mouldyWheels();
            default: return ahead.worthOfAllLying();
        }
    }

    public int advise(int wheel, int days) throws IndexOutOfBoundsException, IllegalArgumentException {
        if (now.wheelOf(wheel) == null) {
            throw new IndexOutOfBoundsException("no such wheel");
        }
        if (!isWithin(days, 1, DAYS_OF_ADVISE)) {
            throw new IllegalArgumentException("days is not 1 to 40");
        }
        int bestCellar = NONE;
        int most = NONE;
        for (int cellar = 0; cellar < MOST_CELLARS; cellar++) {
            int worth = worthFromCellar(wheel, cellar, days);
            if (worth > most) {
                most = worth;
                bestCellar = cellar;
            }
        }
        return bestCellar;
    }

    public double mean() {
        int lying = now.wheelsBeing(IN_CELLAR);
        if (lying == 0) {
            return 0;
        }
        return (double) now.worthOfAllLying() / lying;
    }

    public long digest() {
        long d = 937;
        for (int what = 0; what < COUNTS; what++) {
            d = d * 31 + now.fact(what);
        }
        for (int cellar = 0; cellar < now.cellarCount; cellar++) {
            for (int what = 0; what < CELLAR_FACTS; what++) {
                d = d * 31 + now.cellarFact(cellar, what);
            }
        }
        for (int number = 0; number < now.wheelCount; number++) {
            d = digestOfWheel(d, now.wheelOf(number));
        }
        for (int number = 0; number < now.monkCount; number++) {
            d = digestOfMonk(d, now.monkOf(number));
        }
        return d;
    }

    private static long digestOfWheel(long start, Wheel wheel) {
        long d = start;
        for (int what = 0; what < WHEEL_FACTS && wheel != null; what++) {
            d = d * 31 + wheel.fact(what);
        }
        return d;
    }

    private long digestOfMonk(long start, Monk monk) {
        long d = start;
        for (int what = 0; what < MONK_FACTS && monk != null; what++) {
            d = d * 31 + monk.fact(what, now.day);
        }
        for (int day = 0; day < ROTA_DAYS && monk != null; day++) {
            d = d * 31 + monk.workOn(day);
        }
        return d;
    }

    /** What a wheel is worth later if it lies in this cellar from now on; NONE if it can't. */
    private int worthFromCellar(int wheel, int cellar, int days) {
        Wheel moved = now.lyingWheel(wheel);
        Cellar target = now.cellarOf(cellar);
        if (moved == null || target == null) {
            return NONE;
        }
        ahead.copyFrom(now);
        if (cellar != moved.cellar) {
            int place = target.firstFreePlace();
            if (place == NONE) {
                return NONE;
            }
            ahead.moveWheel(wheel, cellar, place);
        }
        ahead.letDaysGoBy(days);
        return ahead.worthOfLying(wheel);
    }

    private static boolean isWithin(int value, int least, int most) {
        return value >= least && value <= most;
    }

    private static boolean isPlace(int place) {
        return isWithin(place, 0, PLACES - 1);
    }

    private static final class Wheel {
        int state = IN_CELLAR;
        int cellar = NONE;
        int place = NONE;
        int ripeness = 0;
        int salt = 0;
        int water = 80;
        int idleDays = 0;
        int mould = NO_MOULD;
        int growth = 0;
        int source = NONE;

        void copyFrom(Wheel other) {
            if (other == null) {
                return;
            }
            state = other.state;
            cellar = other.cellar;
            place = other.place;
            ripeness = other.ripeness;
            salt = other.salt;
            water = other.water;
            idleDays = other.idleDays;
            mould = other.mould;
            growth = other.growth;
            source = other.source;
        }

        int worth() {
            int worth = ripeness - Math.abs(water - 40);
            if (mould == BLUE && growth >= 3 && growth <= 6) {
                worth += 30;
            } else if (mould == WHITE) {
                worth += 10;
            } else if (mould == BLACK) {
                worth -= 40;
            }
            return Math.max(worth, 0);
        }

        boolean canCatch() {
            return mould == NO_MOULD && salt < 8;
        }

        void takeMould(int newMould, int from) {
            mould = newMould;
            growth = newMould == NO_MOULD ? 0 : 1;
            source = from;
        }

        void undergo(int work) {
            if (work == TURN) {
                idleDays = 0;
            } else if (work == SALT) {
                salt = Math.min(salt + 2, 20);
            } else if (work == WASH && mould != NO_MOULD) {
                wash();
            }
        }

        private void wash() {
            growth -= 3;
            if (growth <= 0) {
                takeMould(NO_MOULD, NONE);
            }
        }

        void ageOneDay(int warmth, int damp) {
            if (mould != NO_MOULD && salt < 12) {
                growth = Math.min(growth + (damp >= 6 ? 2 : 1), MOST_GROWTH);
            }
            ripeness = Math.min(ripeness + (idleDays >= 7 ? warmth / 2 : warmth), 100);
            water = Math.max(water - (10 - damp) / 2, 0);
            idleDays++;
        }

        boolean isSpoiled() {
            return mould == BLACK && growth == MOST_GROWTH || water == 0;
        }

        int fact(int what) {
            switch (what) {
                case 0: return state;
                case 1: return cellar;
                case 2: return place;
                case 3: return ripeness;
                case 4: return salt;
                case 5: return water;
                case 6: return idleDays;
                case 7: return mould;
                case 8: return growth;
                case 9: return source;
                default: return worth();
            }
        }
    }

    private static final class Cellar {
        int warmth = 0;
        int damp = 0;
        private final int[] board = new int[PLACES];

        Cellar() {
            for (int place = 0; place < board.length; place++) {
                board[place] = NONE;
            }
        }

        void copyFrom(Cellar other) {
            if (other == null) {
                return;
            }
            warmth = other.warmth;
            damp = other.damp;
            for (int place = 0; place < board.length; place++) {
                board[place] = other.wheelAt(place);
            }
        }

        int wheelAt(int place) {
            return place >= 0 && place < board.length ? board[place] : NONE;
        }

        void putAt(int place, int wheel) {
            if (place >= 0 && place < board.length) {
                board[place] = wheel;
            }
        }

        int firstFreePlace() {
            for (int place = 0; place < PLACES; place++) {
                if (wheelAt(place) == NONE) {
                    return place;
                }
            }
            return NONE;
        }

        int growthThatLeaps() {
            return damp >= 6 ? 3 : 5;
        }
    }

    private static final class Monk {
        int cellar = NONE;
        int hands = 0;
        int mould = NO_MOULD;
        int latestPlace = NONE;
        private final int[] rota = new int[ROTA_DAYS];

        void copyFrom(Monk other) {
            if (other == null) {
                return;
            }
            cellar = other.cellar;
            hands = other.hands;
            mould = other.mould;
            latestPlace = other.latestPlace;
            for (int day = 0; day < rota.length; day++) {
                rota[day] = other.workOn(day);
            }
        }

        int workOn(int day) {
            int index = Math.floorMod(day, ROTA_DAYS);
            return index >= 0 && index < rota.length ? rota[index] : REST;
        }

        void putWork(int day, int work) {
            if (day >= 0 && day < rota.length) {
                rota[day] = work;
            }
        }

        int fact(int what, int day) {
            switch (what) {
                case 0: return cellar;
                case 1: return hands;
                case 2: return mould;
                case 3: return latestPlace;
                default: return workOn(day);
            }
        }
    }

    /** All that a day changes, so that looking ahead can go on in a copy of it. */
    private static final class Dairy {
        int day = 0;
        int soldWorth = 0;
        int cellarCount = 0;
        int wheelCount = 0;
        int monkCount = 0;
        private final Cellar[] cellars = new Cellar[MOST_CELLARS];
        private final Wheel[] wheels = new Wheel[MOST_WHEELS];
        private final Monk[] monks = new Monk[MOST_MONKS];

        Dairy() {
            for (int i = 0; i < cellars.length; i++) {
                cellars[i] = new Cellar();
            }
            for (int i = 0; i < wheels.length; i++) {
                wheels[i] = new Wheel();
            }
            for (int i = 0; i < monks.length; i++) {
                monks[i] = new Monk();
            }
        }

        void copyFrom(Dairy other) {
            if (other == null) {
                return;
            }
            day = other.day;
            soldWorth = other.soldWorth;
            cellarCount = other.cellarCount;
            wheelCount = other.wheelCount;
            monkCount = other.monkCount;
            for (int i = 0; i < cellars.length; i++) {
                Cellar cellar = cellars[i];
                if (cellar != null) {
                    cellar.copyFrom(other.cellarOf(i));
                }
            }
            for (int i = 0; i < wheels.length; i++) {
                Wheel wheel = wheels[i];
                if (wheel != null) {
                    wheel.copyFrom(other.wheelOf(i));
                }
            }
            for (int i = 0; i < monks.length; i++) {
                Monk monk = monks[i];
                if (monk != null) {
                    monk.copyFrom(other.monkOf(i));
                }
            }
        }

        Cellar cellarOf(int number) {
            boolean isThere = number >= 0 && number < cellarCount && number < cellars.length;
            return isThere ? cellars[number] : null;
        }

        Wheel wheelOf(int number) {
            boolean isThere = number >= 0 && number < wheelCount && number < wheels.length;
            return isThere ? wheels[number] : null;
        }

        Monk monkOf(int number) {
            boolean isThere = number >= 0 && number < monkCount && number < monks.length;
            return isThere ? monks[number] : null;
        }

        /** The wheel, if there is such a one and it lies in a cellar; null otherwise. */
        Wheel lyingWheel(int number) {
            Wheel wheel = wheelOf(number);
            return wheel != null && wheel.state == IN_CELLAR ? wheel : null;
        }

        int addCellar(int warmth, int damp) {
            int number = cellarCount;
            cellarCount++;
            Cellar built = cellarOf(number);
            if (built != null) {
                built.warmth = warmth;
                built.damp = damp;
            }
            return number;
        }

        int addWheel(int cellar, int place) {
            int number = wheelCount;
            wheelCount++;
            putWheel(number, cellar, place);
            return number;
        }

        int addMonk(int cellar, int hands) {
            int number = monkCount;
            monkCount++;
            Monk hired = monkOf(number);
            if (hired != null) {
                hired.cellar = cellar;
                hired.hands = hands;
            }
            return number;
        }

        void moveWheel(int number, int cellar, int place) {
            liftWheel(number);
            putWheel(number, cellar, place);
        }

        void takeAway(int number, int newState) {
            liftWheel(number);
            Wheel taken = wheelOf(number);
            if (taken != null) {
                taken.state = newState;
            }
        }

        private void putWheel(int number, int cellar, int place) {
            Wheel put = wheelOf(number);
            Cellar target = cellarOf(cellar);
            if (put != null && target != null) {
                put.cellar = cellar;
                put.place = place;
                target.putAt(place, number);
            }
        }

        private void liftWheel(int number) {
            Wheel lifted = wheelOf(number);
            Cellar from = lifted == null ? null : cellarOf(lifted.cellar);
            if (lifted != null && from != null) {
                from.putAt(lifted.place, NONE);
                lifted.cellar = NONE;
                lifted.place = NONE;
            }
        }

        int wheelsBeing(int state) {
            int found = 0;
            for (int number = 0; number < MOST_WHEELS; number++) {
                Wheel wheel = wheelOf(number);
                if (wheel != null && wheel.state == state) {
                    found++;
                }
            }
            return found;
        }

        int mouldyWheels() {
            int found = 0;
            for (int cellar = 0; cellar < MOST_CELLARS; cellar++) {
                found += mouldyWheelsIn(cellar);
            }
            return found;
        }

        private int wheelsIn(int cellar) {
            int found = 0;
            for (int number = 0; number < MOST_WHEELS; number++) {
                Wheel wheel = lyingWheel(number);
                if (wheel != null && wheel.cellar == cellar) {
                    found++;
                }
            }
            return found;
        }

        private int mouldyWheelsIn(int cellar) {
            int found = 0;
            for (int number = 0; number < MOST_WHEELS; number++) {
                Wheel wheel = lyingWheel(number);
                if (wheel != null && wheel.cellar == cellar && wheel.mould != NO_MOULD) {
                    found++;
                }
            }
            return found;
        }

        /** One that does not lie in a cellar is worth 0 to those who look ahead. */
        int worthOfLying(int number) {
            Wheel wheel = lyingWheel(number);
            return wheel == null ? 0 : wheel.worth();
        }

        int worthOfAllLying() {
            int sum = 0;
            for (int number = 0; number < MOST_WHEELS; number++) {
                sum += worthOfLying(number);
            }
            return sum;
        }

        int cellarFact(int number, int what) {
            Cellar asked = cellarOf(number);
            if (asked == null) {
                return 0;
            }
            switch (what) {
                case 0: return asked.warmth;
                case 1: return asked.damp;
                case 2: return wheelsIn(number);
                default: return mouldyWheelsIn(number);
            }
        }

        int fact(int what) {
            switch (what) {
                case 0: return day;
                case 1: return cellarCount;
                case 2: return wheelCount;
                case 3: return wheelsBeing(IN_CELLAR);
                case 4: return wheelsBeing(SOLD);
                case 5: return wheelsBeing(LOST);
                case 6: return mouldyWheels();
                case 7: return soldWorth;
                default: return monkCount;
            }
        }

        void letDaysGoBy(int days) {
            for (int i = 0; i < days; i++) {
                for (int monk = 0; monk < MOST_MONKS; monk++) {
                    letMonkWork(monk);
                }
                letMouldsLeap();
                letWheelsAge();
                day++;
            }
        }

        private void letMonkWork(int number) {
            Monk monk = monkOf(number);
            if (monk == null) {
                return;
            }
            int work = monk.workOn(day);
            if (work == REST) {
                monk.mould = NO_MOULD;
                return;
            }
            Cellar cellar = cellarOf(monk.cellar);
            int first = monk.latestPlace + 1;
            int worked = 0;
            for (int step = 0; step < PLACES && worked < monk.hands && cellar != null; step++) {
                int place = (first + step) % PLACES;
                Wheel wheel = lyingWheel(cellar.wheelAt(place));
                if (wheel != null) {
                    wheel.undergo(work);
                    touch(monk, number, wheel);
                    monk.latestPlace = place;
                    worked++;
                }
            }
        }

        private static void touch(Monk monk, int number, Wheel wheel) {
            if (monk == null || wheel == null) {
                return;
            }
            if (wheel.growth >= 4) {
                monk.mould = wheel.mould;
            } else if (monk.mould != NO_MOULD && wheel.canCatch()) {
                wheel.takeMould(monk.mould, FROM_MONK + number);
            }
        }

        /**
         * Goes by what was ahead of this step without a copy: just wheels without a mould change,
         * and to a growth of 1, from which none leaps.
         */
        private void letMouldsLeap() {
            for (int number = 0; number < MOST_WHEELS; number++) {
                Wheel wheel = lyingWheel(number);
                Cellar cellar = wheel == null ? null : cellarOf(wheel.cellar);
                if (wheel != null && cellar != null && wheel.canCatch()) {
                    int source = leapingWheelAt(cellar, wheel.place - 1);
                    if (source == NONE) {
                        source = leapingWheelAt(cellar, wheel.place + 1);
                    }
                    Wheel leaping = lyingWheel(source);
                    if (leaping != null) {
                        wheel.takeMould(leaping.mould, source);
                    }
                }
            }
        }

        /** The number of the wheel there, if its mould can leap; NONE otherwise. */
        private int leapingWheelAt(Cellar cellar, int place) {
            if (cellar == null) {
                return NONE;
            }
            int number = cellar.wheelAt(place);
            Wheel wheel = lyingWheel(number);
            return wheel != null && wheel.growth >= cellar.growthThatLeaps() ? number : NONE;
        }

        private void letWheelsAge() {
            for (int number = 0; number < MOST_WHEELS; number++) {
                Wheel wheel = lyingWheel(number);
                Cellar cellar = wheel == null ? null : cellarOf(wheel.cellar);
                if (wheel != null && cellar != null) {
                    wheel.ageOneDay(cellar.warmth, cellar.damp);
                    if (wheel.isSpoiled()) {
                        takeAway(number, LOST);
                    }
                }
            }
        }
    }
}
