import java.util.function.Supplier;

/**
 * Each error of each call, in an empty house, a full one and one at the end of time: a refused call changes nothing.
 * All that can be known of an object is looked at behind the call: what it tells, its pad, all the states of its
 * history and both of its slots.
 */
public final class RefusedTest {
    private static final int NO_SUCH = EnergyDiscs.NO_SUCH;
    private static final int BAD_VALUE = EnergyDiscs.BAD_VALUE;
    private static final int BAD_TEXT = EnergyDiscs.BAD_TEXT;
    private static final int TOO_MANY = EnergyDiscs.TOO_MANY;
    private static final int NOT_POSSIBLE = EnergyDiscs.NOT_POSSIBLE;
    private static final int NONE = EnergyDiscs.NONE;
    private static final int LEAST = Integer.MIN_VALUE;
    private static final int GREATEST = Integer.MAX_VALUE;
    private static final int VIEWS = 9;

    /** Ways of looking at an object: as it is, after 1 to 6 times undo(), and after restore(0) or restore(1). */
    private static String view(EnergyDiscs x, int view) {
        StringBuilder seen = new StringBuilder(Check.padOf(x)).append(' ').append(x.count(16)).append(' ');
        seen.append(x.fault()).append(' ').append(x.worst()).append(' ');
        for (int i = 0; i < view && view <= 6; i++) {
            seen.append(x.undo()).append(' ');
        }
        if (view > 6) {
            seen.append(x.restore(view - 7)).append(' ');
        }
        return seen.append(Check.told(x)).toString();
    }

    private static int callNamed(String name) {
        for (int call = 0; call < ModelTest.NAMES.length; call++) {
            if (ModelTest.NAMES[call].equals(name)) {
                return call;
            }
        }
        return -1;
    }

    private final String kind;
    private final Supplier<EnergyDiscs> house;
    private final String[] views;

    private RefusedTest(String kind, Supplier<EnergyDiscs> house) {
        this.kind = kind;
        this.house = house;
        views = new String[VIEWS];
        for (int i = 0; i < VIEWS; i++) {
            views[i] = view(house.get(), i);
        }
    }

    /** The call is done on a new object for each view, as a view itself makes changes. */
    private void changesNothing(long want, String name, long... told) {
        StringBuilder call = new StringBuilder(name).append('(');
        for (int i = 0; i < told.length; i++) {
            call.append(i > 0 ? ", " : "").append(told[i]);
        }
        call.append(") in ").append(kind);
        int a = told.length > 0 ? (int) told[0] : 0;
        int b = told.length > 1 ? (int) told[1] : 0;
        int c = told.length > 2 ? (int) told[2] : 0;
        for (int i = 0; i < VIEWS; i++) {
            EnergyDiscs x = house.get();
            Check.due(call.toString(), ModelTest.answer(x, callNamed(name), a, b, c, told.length > 0 ? told[0] : 0), want);
            Check.same("nothing is changed by " + call, view(x, i), views[i]);
        }
    }

    /** Calls that a house of any kind refuses, with arguments just outside of what may be told, and far outside. */
    private void refusesWrongArguments() {
        for (int setting : new int[] {-1, 6, LEAST, GREATEST}) {
            changesNothing(BAD_VALUE, "set", setting, 1);
        }
        int[] above = {100, 10, 2, 5001, 100, 100};
        for (int setting = 0; setting < 6; setting++) {
            for (int value : new int[] {setting == EnergyDiscs.AGE ? 99 : -1, above[setting], LEAST, GREATEST}) {
                changesNothing(BAD_VALUE, "set", setting, value);
            }
        }
        for (int minutes : new int[] {-1, 0, 1441, LEAST, GREATEST}) {
            changesNothing(BAD_VALUE, "pass", minutes);
        }
        for (int what : new int[] {-1, 17, LEAST, GREATEST}) {
            changesNothing(BAD_VALUE, "count", what);
        }
        for (long characters : new long[] {0, -1, 32, 127, 0x6100, 0x610061, Long.MIN_VALUE, Long.MAX_VALUE}) {
            changesNothing(BAD_VALUE, "put", characters);
        }
        for (int slot : new int[] {-1, 2, LEAST, GREATEST}) {
            changesNothing(BAD_VALUE, "save", slot);
            changesNothing(BAD_VALUE, "restore", slot);
        }
        for (int place : new int[] {-1, 80, LEAST, GREATEST}) {
            changesNothing(NO_SUCH, "sign", place);
        }
        changesNothing(NOT_POSSIBLE, "restore", 1);
        changesNothing(BAD_TEXT, "carryOut");
    }

    private void refusesMeter(int meter) {
        for (String name : new String[] {"tamper", "visit", "write", "misses", "fed", "bill", "turnsIn", "lags"}) {
            changesNothing(NO_SUCH, name, meter);
        }
        changesNothing(NO_SUCH, "load", meter, 1);
        changesNothing(NO_SUCH, "load", meter, 0);
        changesNothing(NO_SUCH, "of", meter, 0);
        changesNothing(NO_SUCH, "of", meter, 12);
        changesNothing(NO_SUCH, "wouldTurn", meter, 1, 0);
        changesNothing(NO_SUCH, "wouldTurn", meter, 0, 2);
    }

    private void refusesLoad(int load) {
        changesNothing(NO_SUCH, "turn", load);
        changesNothing(NO_SUCH, "ofLoad", load, 0);
        changesNothing(NO_SUCH, "ofLoad", load, 3);
    }

    private static void emptyHouse() {
        RefusedTest test = new RefusedTest("an empty house", Houses::empty);
        test.refusesWrongArguments();
        for (int number : new int[] {-1, 0, 1, LEAST, GREATEST}) {
            test.refusesMeter(number);
            test.refusesLoad(number);
        }
        test.changesNothing(NOT_POSSIBLE, "undo");
        test.changesNothing(NOT_POSSIBLE, "restore", 0);
        test.changesNothing(NONE, "worst");
    }

    private static void fullHouse() {
        RefusedTest test = new RefusedTest("a full house", Houses::full);
        test.refusesWrongArguments();
        for (int meter : new int[] {-1, 7, LEAST, GREATEST}) {
            test.refusesMeter(meter);
            test.changesNothing(NO_SUCH, "meter", meter);
        }
        for (int load : new int[] {-1, 12, LEAST, GREATEST}) {
            test.refusesLoad(load);
        }
        for (int meter = 0; meter < 7; meter += 3) {
            test.changesNothing(TOO_MANY, "meter", meter);
            test.changesNothing(TOO_MANY, "load", meter, 1);
            test.changesNothing(TOO_MANY, "load", meter, 4000);
            for (int power : new int[] {-1, 0, 4001, LEAST, GREATEST}) {
                test.changesNothing(BAD_VALUE, "load", meter, power);
            }
            for (int what : new int[] {-1, 12, LEAST, GREATEST}) {
                test.changesNothing(BAD_VALUE, "of", meter, what);
                test.changesNothing(BAD_VALUE, "ofLoad", meter, what == 12 ? 3 : what);
            }
            for (int minutes : new int[] {-1, 0, 1441, LEAST, GREATEST}) {
                test.changesNothing(BAD_VALUE, "wouldTurn", meter, minutes, 1);
            }
            for (int night : new int[] {-1, 2, LEAST, GREATEST}) {
                test.changesNothing(BAD_VALUE, "wouldTurn", meter, 1440, night);
            }
        }
        test.changesNothing(NOT_POSSIBLE, "tamper", 5);
        test.changesNothing(NOT_POSSIBLE, "tamper", 6);
        test.changesNothing(TOO_MANY, "put", 'x');
        test.changesNothing(TOO_MANY, "put", Check.packed("12345678"));
    }

    private static void oldHouse() {
        RefusedTest test = new RefusedTest("a house at the end of time", Houses::old);
        for (int minutes : new int[] {1, 2, 1440}) {
            test.changesNothing(NOT_POSSIBLE, "pass", minutes);
        }
        for (int minutes : new int[] {-1, 0, 1441, LEAST, GREATEST}) {
            test.changesNothing(BAD_VALUE, "pass", minutes);
        }
    }

    /** What is asked without an error changes nothing, either. */
    private static void questions() {
        Check.sentence("what if; nothing changes");
        RefusedTest test = new RefusedTest("a full house", Houses::full);
        EnergyDiscs x = Houses.full();
        for (int meter = 0; meter < 7; meter++) {
            for (String name : new String[] {"bill", "turnsIn", "lags", "misses", "fed"}) {
                test.changesNothing(ModelTest.answer(x, callNamed(name), meter, 0, 0, 0), name, meter);
            }
            test.changesNothing(x.wouldTurn(meter, 1, 0), "wouldTurn", meter, 1, 0);
            test.changesNothing(x.wouldTurn(meter, 1440, 1), "wouldTurn", meter, 1440, 1);
            test.changesNothing(x.of(meter, meter), "of", meter, meter);
            test.changesNothing(x.ofLoad(meter, 2), "ofLoad", meter, 2);
            test.changesNothing(x.count(meter), "count", meter);
            test.changesNothing(x.sign(meter), "sign", meter);
        }
        test.changesNothing(x.worst(), "worst");
        test.changesNothing(x.fault(), "fault");
        test = new RefusedTest("a house at the end of time", Houses::old);
        test.changesNothing(1, "turnsIn", 0);
        test.changesNothing(Houses.old().wouldTurn(0, 1440, 0), "wouldTurn", 0, 1440, 0);
    }

    public static void main(String[] args) {
        Check.sentence("A call that returns an error changes nothing.");
        emptyHouse();
        fullHouse();
        oldHouse();
        questions();
        Check.end();
    }
}
