/** A house of energy meters whose discs turn between magnets; README.md says how to use it. */
public final class EnergyDiscs {
    public static final int NO_SUCH = -1, BAD_VALUE = -2, BAD_TEXT = -3, TOO_MANY = -4, NOT_POSSIBLE = -5, NONE = -6;
    public static final int START = 0, CREEP = 1, HOLE = 2, AGE = 3, DAY = 4, NIGHT = 5;

    private static final int[] LOWEST = {0, 0, 0, 100, 0, 0};
    private static final int[] HIGHEST = {99, 9, 1, 5000, 99, 99};
    private static final int[] FIRST = {15, 2, 1, 1000, 9, 5};
    private static final int SETTINGS = 6;

    private static final int MOST_METERS = 7;
    private static final int MOST_LOADS = 12;
    private static final int MOST_POWER = 4000;
    private static final int TURN = 6000;
    private static final int FIRST_SPEED = 100;
    private static final int MOST_SPEED = 160;

    private static final int MINUTES_OF_A_DAY = 1440;
    private static final int NIGHT_BEGINS = 1320;
    private static final int NIGHT_ENDS = 360;
    private static final int MOST_MINUTES = 1440;
    private static final int LATEST_TIME = 99999;
    private static final int MINUTES_LOOKED_AHEAD = 3000;

    // Both are added to differences, so that no answer is below 0 like an error code.
    private static final long MISSES_ZERO = 10000000000L;
    private static final int LAGS_ZERO = 10000000;

    private static final int MOST_SIGNS = 80;
    private static final int SIGNS_OF_A_PUT = 8;
    private static final int LOWEST_SIGN = 33;
    private static final int HIGHEST_SIGN = 126;

    private static final int STATES_KEPT = 6;
    private static final int SLOTS = 2;

    private final House house;
    private final Meter probe;
    private final Pad pad;
    private final History history;
    private final House[] slots;
    private final boolean[] slotsUsed;

    public EnergyDiscs() {
        house = new House();
        probe = new Meter();
        pad = new Pad();
        history = new History();
        slots = new House[SLOTS];
        slotsUsed = new boolean[SLOTS];
        for (int i = 0; i < SLOTS; i++) {
            slots[i] = new House();
        }
    }

    // ---- changes

    public int set(int setting, int value) {
        history.prepare(house);
        return history.settle(house.changeSetting(setting, value));
    }

    public int meter(int through) {
        history.prepare(house);
        return history.settle(house.addMeter(through));
    }

    public int load(int meter, int power) {
        history.prepare(house);
        return history.settle(house.addLoad(meter, power));
    }

    public int turn(int load) {
        history.prepare(house);
        return history.settle(house.switchLoad(load));
    }

    public int tamper(int meter) {
        history.prepare(house);
        return history.settle(house.breakSeal(meter));
    }

    public int visit(int meter) {
        history.prepare(house);
        return history.settle(house.inspect(meter));
    }

    public int pass(int minutes) {
        history.prepare(house);
        return history.settle(house.elapse(minutes));
    }

    public int write(int meter) {
        Meter told = house.meterAt(meter);
        if (told == null) {
            return NO_SUCH;
        }
        pad.clear();
        pad.append('d');
        pad.appendNumber(told.dayTurns);
        pad.append('n');
        pad.appendNumber(told.nightTurns);
        pad.append('#');
        pad.appendNumber(told.seal);
        if (told.broken) {
            pad.append('!');
        }
        return pad.length;
    }

    // ---- what there is

    public int sign(int place) {
        return pad.signAt(place);
    }

    public int of(int meter, int what) {
        Meter asked = house.meterAt(meter);
        if (asked == null) {
            return NO_SUCH;
        }
        switch (what) {
            case 0: return asked.through;
            case 1: return house.powerOf(meter);
            case 2: return asked.place;
            case 3: return asked.speed;
            case 4: return asked.dayTurns;
            case 5: return asked.nightTurns;
            case 6: return (int) (asked.flowed / TURN);
            case 7: return asked.seal;
            case 8: return asked.broken ? 1 : 0;
            case 9: return asked.billed;
            case 10: return asked.minutesToWeaken(house.settings[AGE]);
            case 11: return asked.visits;
            default: return BAD_VALUE;
        }
    }

    public int ofLoad(int load, int what) {
        Load asked = house.loadAt(load);
        if (asked == null) {
            return NO_SUCH;
        }
        switch (what) {
            case 0: return asked.behind;
            case 1: return asked.power;
            case 2: return asked.on ? 1 : 0;
            default: return BAD_VALUE;
        }
    }

    public long misses(int meter) {
        Meter asked = house.meterAt(meter);
        return asked == null ? NO_SUCH : asked.missed() + MISSES_ZERO;
    }

    public int fed(int meter) {
        return house.meterAt(meter) == null ? NO_SUCH : house.fedThrough(meter);
    }

    public int count(int what) {
        switch (what) {
            case 0: return house.time;
            case 1: return isNight(house.time) ? 1 : 0;
            case 2: return house.meterCount;
            case 3: return house.loadCount;
            case 4: return house.loadsOn();
            case 5: return house.sealsBroken();
            case 6: return house.allTurns();
            case 7: return house.allBilled();
            case 8: return house.greatestSeal;
            case 9: return house.settings[START];
            case 10: return house.settings[CREEP];
            case 11: return house.settings[HOLE];
            case 12: return house.settings[AGE];
            case 13: return house.settings[DAY];
            case 14: return house.settings[NIGHT];
            case 15: return pad.length;
            case 16: return history.kept;
            default: return BAD_VALUE;
        }
    }

    // ---- what if; nothing changes

    public int bill(int meter) {
        Meter asked = house.meterAt(meter);
        return asked == null ? NO_SUCH : house.owedAt(asked);
    }

    public int turnsIn(int meter) {
        Meter asked = house.meterAt(meter);
        if (asked == null) {
            return NO_SUCH;
        }
        probe.copyFrom(asked);
        return house.minutesToTurn(probe, house.powerOf(meter));
    }

    public int wouldTurn(int meter, int minutes, int night) {
        Meter asked = house.meterAt(meter);
        if (asked == null) {
            return NO_SUCH;
        }
        if (minutes < 1 || minutes > MOST_MINUTES || night < 0 || night > 1) {
            return BAD_VALUE;
        }
        probe.copyFrom(asked);
        house.runDisc(probe, house.powerOf(meter), minutes);
        return night == 1 ? probe.nightTurns - asked.nightTurns : probe.dayTurns - asked.dayTurns;
    }

    public int worst() {
        return house.mostMissing();
    }

    public int lags(int meter) {
        return house.meterAt(meter) == null ? NO_SUCH : house.turnsBehind(meter) + LAGS_ZERO;
    }

    // ---- texts

    public int put(long characters) {
        int given = Pad.signsIn(characters);
        if (given == 0) {
            return BAD_VALUE;
        }
        if (pad.length + given > MOST_SIGNS) {
            return TOO_MANY;
        }
        for (int i = given - 1; i >= 0; i--) {
            pad.append(Pad.signOf(characters, i));
        }
        return pad.length;
    }

    public int wipe() {
        int had = pad.length;
        pad.clear();
        return had;
    }

    public int fault() {
        return Grammar.faultOf(pad);
    }

    public int carryOut() {
        if (Grammar.faultOf(pad) != NONE) {
            return BAD_TEXT;
        }
        history.prepare(house);
        int done = 0;
        int from = 0;
        for (int i = 0; i <= pad.length; i++) {
            if (i < pad.length && pad.signAt(i) != ';') {
                continue;
            }
            if (carryOneOut(from, i) < 0) {
                break;
            }
            done++;
            from = i + 1;
        }
        pad.clear();
        return history.settle(done);
    }

    /** Calls the house, not the public methods: an order by itself is not recorded. */
    private int carryOneOut(int from, int end) {
        switch (pad.signAt(from)) {
            // No digit reads as 0, and 0 is the meter that an "m" alone means.
            case 'm': return house.addMeter(pad.numberIn(from + 1, end));
            case 'l': return house.addLoad(pad.numberIn(from + 1, from + 2), pad.numberIn(from + 3, end));
            case 's': return house.switchLoad(pad.numberIn(from + 1, end));
            case 't': return house.elapse(pad.numberIn(from + 1, end));
            case 'b': return house.breakSeal(pad.numberIn(from + 1, end));
            case 'v': return house.inspect(pad.numberIn(from + 1, end));
            default: return BAD_TEXT;
        }
    }

    // ---- undo, saving

    public int undo() {
        if (history.kept == 0) {
            return NOT_POSSIBLE;
        }
        house.copyFrom(history.takeLatest());
        return history.kept;
    }

    public int save(int slot) {
        if (slot < 0 || slot >= SLOTS) {
            return BAD_VALUE;
        }
        slots[slot].copyFrom(house);
        slotsUsed[slot] = true;
        return house.meterCount;
    }

    public int restore(int slot) {
        if (slot < 0 || slot >= SLOTS) {
            return BAD_VALUE;
        }
        if (!slotsUsed[slot]) {
            return NOT_POSSIBLE;
        }
        history.prepare(house);
        house.copyFrom(slots[slot]);
        return history.settle(house.meterCount);
    }

    private static boolean isNight(int time) {
        int minute = time % MINUTES_OF_A_DAY;
        return minute >= NIGHT_BEGINS || minute < NIGHT_ENDS;
    }

    /** The end of a day counts as a switch, too; the night that goes on behind it does no harm. */
    private static int minutesToSwitch(int time) {
        int minute = time % MINUTES_OF_A_DAY;
        if (minute < NIGHT_ENDS) {
            return NIGHT_ENDS - minute;
        }
        return (minute < NIGHT_BEGINS ? NIGHT_BEGINS : MINUTES_OF_A_DAY) - minute;
    }

    /** All that undo, save and restore put back. Its methods answer as the public ones do, but record nothing. */
    private static final class House {
        final int[] settings;
        final Meter[] meters;
        final Load[] loads;
        int time;
        int meterCount;
        int loadCount;
        int greatestSeal;

        House() {
            settings = new int[SETTINGS];
            meters = new Meter[MOST_METERS];
            loads = new Load[MOST_LOADS];
            for (int i = 0; i < SETTINGS; i++) {
                settings[i] = FIRST[i];
            }
            for (int i = 0; i < MOST_METERS; i++) {
                meters[i] = new Meter();
            }
            for (int i = 0; i < MOST_LOADS; i++) {
                loads[i] = new Load();
            }
        }

        void copyFrom(House other) {
            for (int i = 0; i < SETTINGS; i++) {
                settings[i] = other.settings[i];
            }
            for (int i = 0; i < other.meterCount; i++) {
                meters[i].copyFrom(other.meters[i]);
            }
            for (int i = 0; i < other.loadCount; i++) {
                loads[i].copyFrom(other.loads[i]);
            }
            time = other.time;
            meterCount = other.meterCount;
            loadCount = other.loadCount;
            greatestSeal = other.greatestSeal;
        }

        Meter meterAt(int number) {
            return number >= 0 && number < meterCount ? meters[number] : null;
        }

        Load loadAt(int number) {
            return number >= 0 && number < loadCount ? loads[number] : null;
        }

        int changeSetting(int setting, int value) {
            if (setting < 0 || setting >= SETTINGS || value < LOWEST[setting] || value > HIGHEST[setting]) {
                return BAD_VALUE;
            }
            int previous = settings[setting];
            settings[setting] = value;
            return previous;
        }

        int addMeter(int through) {
            if (meterCount > 0 && meterAt(through) == null) {
                return NO_SUCH;
            }
            if (meterCount >= MOST_METERS) {
                return TOO_MANY;
            }
            greatestSeal++;
            meters[meterCount].begin(meterCount == 0 ? NONE : through, greatestSeal);
            meterCount++;
            return meterCount - 1;
        }

        int addLoad(int behind, int power) {
            if (meterAt(behind) == null) {
                return NO_SUCH;
            }
            if (power < 1 || power > MOST_POWER) {
                return BAD_VALUE;
            }
            if (loadCount >= MOST_LOADS) {
                return TOO_MANY;
            }
            loads[loadCount].begin(behind, power);
            loadCount++;
            return loadCount - 1;
        }

        int switchLoad(int number) {
            Load switched = loadAt(number);
            if (switched == null) {
                return NO_SUCH;
            }
            switched.on = !switched.on;
            return switched.on ? 1 : 0;
        }

        int breakSeal(int number) {
            Meter hurt = meterAt(number);
            if (hurt == null) {
                return NO_SUCH;
            }
            if (hurt.broken) {
                return NOT_POSSIBLE;
            }
            hurt.broken = true;
            return hurt.seal;
        }

        int inspect(int number) {
            Meter visited = meterAt(number);
            if (visited == null) {
                return NO_SUCH;
            }
            int coins = owedAt(visited);
            visited.settleBill(coins);
            if (visited.broken) {
                greatestSeal++;
                visited.mend(greatestSeal);
            }
            return coins;
        }

        int elapse(int minutes) {
            if (minutes < 1 || minutes > MOST_MINUTES) {
                return BAD_VALUE;
            }
            if (time + minutes > LATEST_TIME) {
                return NOT_POSSIBLE;
            }
            int turns = 0;
            // No load is switched meanwhile, so each meter may run through all the minutes alone.
            for (int i = 0; i < meterCount; i++) {
                turns += runDisc(meters[i], powerOf(i), minutes);
            }
            time += minutes;
            return turns;
        }

        int runDisc(Meter meter, int power, int minutes) {
            int turns = 0;
            int passed = 0;
            // As long as register and speed stay, all minutes are alike and go in one step.
            while (passed < minutes) {
                int now = time + passed;
                int alike = Math.min(minutesToSwitch(now), meter.minutesToAge(settings[AGE]));
                int span = Math.max(1, Math.min(alike, minutes - passed));
                turns += meter.run(span, power, settings, isNight(now));
                passed += span;
            }
            return turns;
        }

        int minutesToTurn(Meter meter, int power) {
            for (int i = 0; i < MINUTES_LOOKED_AHEAD; i++) {
                if (meter.run(1, power, settings, isNight(time + i)) > 0) {
                    return i + 1;
                }
            }
            return NONE;
        }

        int owedAt(Meter meter) {
            return meter.unbilledDayTurns() * settings[DAY] + meter.unbilledNightTurns() * settings[NIGHT];
        }

        int powerOf(int number) {
            int fed = fedThrough(number);
            int power = 0;
            for (int i = 0; i < loadCount; i++) {
                if (loads[i].on && contains(fed, loads[i].behind)) {
                    power += loads[i].power;
                }
            }
            return power;
        }

        int fedThrough(int number) {
            int fed = 1 << number;
            // A meter is fed through a lower one, so one way up finds also those through another.
            for (int i = number + 1; i < meterCount; i++) {
                if (contains(fed, meters[i].through)) {
                    fed |= 1 << i;
                }
            }
            return fed;
        }

        private static boolean contains(int set, int number) {
            return (set >> number & 1) == 1;
        }

        int loadsOn() {
            int set = 0;
            for (int i = 0; i < loadCount; i++) {
                set |= loads[i].on ? 1 << i : 0;
            }
            return set;
        }

        int sealsBroken() {
            int set = 0;
            for (int i = 0; i < meterCount; i++) {
                set |= meters[i].broken ? 1 << i : 0;
            }
            return set;
        }

        int allTurns() {
            int turns = 0;
            for (int i = 0; i < meterCount; i++) {
                turns += meters[i].turns();
            }
            return turns;
        }

        int allBilled() {
            int coins = 0;
            for (int i = 0; i < meterCount; i++) {
                coins += meters[i].billed;
            }
            return coins;
        }

        int mostMissing() {
            if (meterCount == 0) {
                return NONE;
            }
            int found = 0;
            for (int i = 1; i < meterCount; i++) {
                if (meters[i].missed() > meters[found].missed()) {
                    found = i;
                }
            }
            return found;
        }

        int turnsBehind(int number) {
            int turns = 0;
            for (int i = number + 1; i < meterCount; i++) {
                if (meters[i].through == number) {
                    turns += meters[i].turns();
                }
            }
            return turns - meters[number].turns();
        }
    }

    private static final class Meter {
        int through;
        int place;
        int speed;
        int age;
        int dayTurns;
        int nightTurns;
        int billedDayTurns;
        int billedNightTurns;
        long flowed;
        int seal;
        // Tampering breaks the seal, and a visit ends both: so one flag tells both.
        boolean broken;
        int billed;
        int visits;

        Meter() {
            begin(NONE, 0);
        }

        /** Sets every field, for a row may hold what was there before an undo. */
        void begin(int feeder, int number) {
            through = feeder;
            place = 0;
            speed = FIRST_SPEED;
            age = 0;
            dayTurns = 0;
            nightTurns = 0;
            billedDayTurns = 0;
            billedNightTurns = 0;
            flowed = 0;
            seal = number;
            broken = false;
            billed = 0;
            visits = 0;
        }

        void copyFrom(Meter other) {
            through = other.through;
            place = other.place;
            speed = other.speed;
            age = other.age;
            dayTurns = other.dayTurns;
            nightTurns = other.nightTurns;
            billedDayTurns = other.billedDayTurns;
            billedNightTurns = other.billedNightTurns;
            flowed = other.flowed;
            seal = other.seal;
            broken = other.broken;
            billed = other.billed;
            visits = other.visits;
        }

        int turns() {
            return dayTurns + nightTurns;
        }

        int unbilledDayTurns() {
            return dayTurns - billedDayTurns;
        }

        int unbilledNightTurns() {
            return nightTurns - billedNightTurns;
        }

        /** In long, as 6000 for each turn may be more than an int holds. */
        long missed() {
            return flowed - (long) TURN * turns() - place;
        }

        int minutesToWeaken(int limit) {
            return speed >= MOST_SPEED ? NONE : minutesToAge(limit);
        }

        /** A limit that was set lower than the age is reached in the next minute. */
        int minutesToAge(int limit) {
            return Math.max(1, limit - age);
        }

        /** Takes no more minutes than minutesToAge() and minutesToSwitch() tell, so that they are alike. */
        int run(int minutes, int power, int[] settings, boolean night) {
            flowed += (long) power * minutes;
            place += wayIn(minutes, power, settings);
            int turns = place / TURN;
            place -= turns * TURN;
            if (night) {
                nightTurns += turns;
            } else {
                dayTurns += turns;
            }
            age += minutes;
            if (age >= settings[AGE]) {
                age = 0;
                speed = Math.min(MOST_SPEED, speed + 1);
            }
            return turns;
        }

        private int wayIn(int minutes, int power, int[] settings) {
            if (power > settings[START]) {
                int step = power * speed / 100;
                return minutes * (broken ? step / 2 : step);
            }
            if (power > 0 || broken) {
                return 0;
            }
            int creep = minutes * settings[CREEP];
            if (settings[HOLE] == 0) {
                return creep;
            }
            // Where a creeping disc makes its turn it stands at 0, and stays there.
            return place == 0 ? 0 : Math.min(creep, TURN - place);
        }

        void settleBill(int coins) {
            billed += coins;
            billedDayTurns = dayTurns;
            billedNightTurns = nightTurns;
            visits++;
            speed = FIRST_SPEED;
            age = 0;
        }

        void mend(int number) {
            broken = false;
            seal = number;
        }
    }

    private static final class Load {
        int behind;
        int power;
        boolean on;

        Load() {
            begin(0, 0);
        }

        void begin(int meterNumber, int watts) {
            behind = meterNumber;
            power = watts;
            on = false;
        }

        void copyFrom(Load other) {
            behind = other.behind;
            power = other.power;
            on = other.on;
        }
    }

    private static final class Pad {
        final char[] signs;
        int length;

        Pad() {
            signs = new char[MOST_SIGNS];
            length = 0;
        }

        void clear() {
            length = 0;
        }

        int signAt(int place) {
            return place >= 0 && place < length ? signs[place] : NO_SUCH;
        }

        void append(char sign) {
            if (length < MOST_SIGNS) {
                signs[length] = sign;
                length++;
            }
        }

        void appendNumber(int number) {
            int digits = 1;
            for (int rest = number / 10; rest > 0; rest /= 10) {
                digits++;
            }
            if (length + digits > MOST_SIGNS) {
                return;
            }
            int rest = number;
            for (int i = length + digits - 1; i >= length; i--) {
                signs[i] = (char) ('0' + rest % 10);
                rest /= 10;
            }
            length += digits;
        }

        int numberIn(int from, int end) {
            int number = 0;
            for (int i = from; i < end; i++) {
                number = number * 10 + signAt(i) - '0';
            }
            return number;
        }

        /** Answers how many characters a number for put() gives, 0 if it is not as it has to be. */
        static int signsIn(long characters) {
            int given = 0;
            while (given < SIGNS_OF_A_PUT && signOf(characters, given) != 0) {
                char sign = signOf(characters, given);
                if (sign < LOWEST_SIGN || sign > HIGHEST_SIGN) {
                    return 0;
                }
                given++;
            }
            // A shift by all 64 bits would be one by none, so 8 characters are not looked at again.
            boolean restIsEmpty = given == SIGNS_OF_A_PUT || characters >>> (8 * given) == 0;
            return restIsEmpty ? given : 0;
        }

        static char signOf(long characters, int fromTheLast) {
            return (char) (characters >>> (8 * fromTheLast) & 255);
        }
    }

    /** Reads orders sign by sign; a state tells what may come next. */
    private static final class Grammar {
        private static final int NOWHERE = 0;
        private static final int ORDER = 1;
        private static final int AFTER_M = 2;
        private static final int LOAD_METER = 3;
        private static final int EQUALS = 4;
        private static final int NUMBER = 5;
        private static final int THREE_MORE = 6;
        private static final int TWO_MORE = 7;
        private static final int ONE_MORE = 8;
        private static final int DIGIT = 9;
        private static final int ENDED = 10;

        static int faultOf(Pad pad) {
            int state = ORDER;
            for (int i = 0; i < pad.length; i++) {
                state = stateAfter(state, pad.signAt(i));
                if (state == NOWHERE) {
                    return i;
                }
            }
            return mayEnd(state) ? NONE : pad.length;
        }

        private static int stateAfter(int state, int sign) {
            if (sign == ';') {
                return mayEnd(state) ? ORDER : NOWHERE;
            }
            switch (state) {
                case ORDER: return stateAfterName(sign);
                case LOAD_METER: return ifDigit(sign, EQUALS);
                case EQUALS: return sign == '=' ? NUMBER : NOWHERE;
                // Leading zeros cannot stand, so nothing follows a 0.
                case NUMBER: return sign == '0' ? ENDED : ifDigit(sign, THREE_MORE);
                case THREE_MORE: return ifDigit(sign, TWO_MORE);
                case TWO_MORE: return ifDigit(sign, ONE_MORE);
                case ONE_MORE: return ifDigit(sign, ENDED);
                case AFTER_M: return ifDigit(sign, ENDED);
                case DIGIT: return ifDigit(sign, ENDED);
                default: return NOWHERE;
            }
        }

        private static int stateAfterName(int sign) {
            switch (sign) {
                case 'm': return AFTER_M;
                case 'l': return LOAD_METER;
                case 's': return NUMBER;
                case 't': return NUMBER;
                case 'b': return DIGIT;
                case 'v': return DIGIT;
                default: return NOWHERE;
            }
        }

        private static int ifDigit(int sign, int then) {
            return sign >= '0' && sign <= '9' ? then : NOWHERE;
        }

        private static boolean mayEnd(int state) {
            switch (state) {
                case AFTER_M:
                case THREE_MORE:
                case TWO_MORE:
                case ONE_MORE:
                case ENDED:
                    return true;
                default:
                    return false;
            }
        }
    }

    /** A ring with one row more than states are kept: the free one takes a state before it is known to be recorded. */
    private static final class History {
        private static final int ROWS = STATES_KEPT + 1;

        final House[] states;
        int free;
        int kept;

        History() {
            states = new House[ROWS];
            for (int i = 0; i < ROWS; i++) {
                states[i] = new House();
            }
            free = 0;
            kept = 0;
        }

        void prepare(House before) {
            states[free].copyFrom(before);
        }

        /** Records what was prepared, unless the answer is an error. */
        int settle(int answer) {
            if (answer >= 0) {
                free = (free + 1) % ROWS;
                kept = Math.min(STATES_KEPT, kept + 1);
            }
            return answer;
        }

        House takeLatest() {
            kept--;
            free = (free + STATES_KEPT) % ROWS;
            return states[free];
        }
    }
}
