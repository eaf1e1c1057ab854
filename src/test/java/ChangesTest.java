/** Promises 1 to 8 and the minute: a new object, set, meter, load, turn, tamper, visit, pass. */
public final class ChangesTest {
    private static final int NO_SUCH = EnergyDiscs.NO_SUCH;
    private static final int BAD_VALUE = EnergyDiscs.BAD_VALUE;
    private static final int TOO_MANY = EnergyDiscs.TOO_MANY;
    private static final int NOT_POSSIBLE = EnergyDiscs.NOT_POSSIBLE;
    private static final int NONE = EnergyDiscs.NONE;
    private static final int[] LIMITS = {Integer.MIN_VALUE, -1, 0, 1, Integer.MAX_VALUE};

    private static void due(String call, long got, long want) {
        Check.due(call, got, want);
    }

    private static void newObject() {
        EnergyDiscs x = new EnergyDiscs();
        long[] want = {0, 1, 0, 0, 0, 0, 0, 0, 0, 15, 2, 1, 1000, 9, 5, 0, 0};
        for (int what = 0; what < want.length; what++) {
            due("count(" + what + ") of a new object", x.count(what), want[what]);
        }
        due("undo() of a new object", x.undo(), NOT_POSSIBLE);
        due("restore(0) of a new object", x.restore(0), NOT_POSSIBLE);
        due("fault() of a new object", x.fault(), 0);
    }

    private static void set() {
        int[] lowest = {0, 0, 0, 100, 0, 0};
        int[] highest = {99, 9, 1, 5000, 99, 99};
        int[] first = {15, 2, 1, 1000, 9, 5};
        EnergyDiscs x = new EnergyDiscs();
        for (int i = 0; i < 6; i++) {
            due("set(" + i + ", below)", x.set(i, lowest[i] - 1), BAD_VALUE);
            due("set(" + i + ", above)", x.set(i, highest[i] + 1), BAD_VALUE);
            due("count(9 + " + i + ")", x.count(9 + i), first[i]);
            due("set(" + i + ", lowest)", x.set(i, lowest[i]), first[i]);
            due("set(" + i + ", highest)", x.set(i, highest[i]), lowest[i]);
            due("count(9 + " + i + ")", x.count(9 + i), highest[i]);
            due("set(" + i + ", highest) again", x.set(i, highest[i]), highest[i]);
        }
        due("set(-1, 1)", x.set(-1, 1), BAD_VALUE);
        due("set(6, 1)", x.set(6, 1), BAD_VALUE);
        for (int limit : LIMITS) {
            due("set(limit, -1)", x.set(limit, -1), BAD_VALUE);
        }
        due("set(MAX, 1)", x.set(Integer.MAX_VALUE, 1), BAD_VALUE);
    }

    private static void meter() {
        EnergyDiscs x = new EnergyDiscs();
        due("meter(-77) as the first", x.meter(-77), 0);
        due("of(0, 0)", x.of(0, 0), NONE);
        due("meter(1) with one", x.meter(1), NO_SUCH);
        due("meter(-1) with one", x.meter(-1), NO_SUCH);
        due("meter(0)", x.meter(0), 1);
        for (int i = 2; i < 7; i++) {
            due("meter(" + (i - 1) + ")", x.meter(i - 1), i);
            due("of(" + i + ", 0)", x.of(i, 0), i - 1);
            due("of(" + i + ", 7)", x.of(i, 7), i + 1);
        }
        due("meter(7) with 7", x.meter(7), NO_SUCH);
        due("meter(6) with 7", x.meter(6), TOO_MANY);
        due("count(2)", x.count(2), 7);
        due("of(6, 3)", x.of(6, 3), 100);
        due("of(6, 2)", x.of(6, 2), 0);
    }

    private static void newOnesInThePlaceOfOthers() {
        EnergyDiscs x = Check.house(0);
        x.save(0);
        x.meter(0);
        x.load(1, 1777);
        x.turn(0);
        x.pass(1440);
        x.visit(1);
        x.pass(1111);
        x.tamper(1);
        due("restore(0) to one meter", x.restore(0), 1);
        x.meter(0);
        x.load(0, 33);
        EnergyDiscs fresh = Check.house(0, 0);
        fresh.load(0, 33);
        Check.same("a meter and a load that come after restore() are new", Check.told(x), Check.told(fresh));
        due("wouldTurn(1, 1440, 1)", x.wouldTurn(1, 1440, 1), 0);
    }

    private static void load() {
        EnergyDiscs x = new EnergyDiscs();
        due("load(0, 5) without meters", x.load(0, 5), NO_SUCH);
        x.meter(0);
        due("load(-1, 0)", x.load(-1, 0), NO_SUCH);
        due("load(1, 5)", x.load(1, 5), NO_SUCH);
        due("load(0, 0)", x.load(0, 0), BAD_VALUE);
        due("load(0, 4001)", x.load(0, 4001), BAD_VALUE);
        for (int i = 0; i < 12; i++) {
            due("load " + i, x.load(0, i == 0 ? 1 : 4000), i);
            due("ofLoad(" + i + ", 2)", x.ofLoad(i, 2), 0);
        }
        due("load(1, 1) with 12", x.load(1, 1), NO_SUCH);
        due("load(0, 4001) with 12", x.load(0, 4001), BAD_VALUE);
        due("load(0, 1) with 12", x.load(0, 1), TOO_MANY);
        due("count(3)", x.count(3), 12);
    }

    private static void turn() {
        EnergyDiscs x = Check.house(0);
        due("turn(0) without loads", x.turn(0), NO_SUCH);
        x.load(0, 100);
        x.load(0, 30);
        due("turn(-1)", x.turn(-1), NO_SUCH);
        due("turn(2)", x.turn(2), NO_SUCH);
        due("turn(1)", x.turn(1), 1);
        due("of(0, 1)", x.of(0, 1), 30);
        due("turn(0)", x.turn(0), 1);
        due("of(0, 1)", x.of(0, 1), 130);
        due("turn(1) again", x.turn(1), 0);
        due("of(0, 1)", x.of(0, 1), 100);
        due("turn(1) once more", x.turn(1), 1);
    }

    private static void tamper() {
        EnergyDiscs x = Check.house(0, 0, 0);
        due("tamper(-1)", x.tamper(-1), NO_SUCH);
        due("tamper(3)", x.tamper(3), NO_SUCH);
        due("tamper(1)", x.tamper(1), 2);
        due("tamper(1) again", x.tamper(1), NOT_POSSIBLE);
        due("of(1, 8)", x.of(1, 8), 1);
        due("of(0, 8)", x.of(0, 8), 0);
        due("count(5)", x.count(5), 2);
        x.visit(1);
        due("tamper(1) after a visit", x.tamper(1), 4);
    }

    private static void visit() {
        EnergyDiscs x = Check.house(0, 0);
        due("visit(-1)", x.visit(-1), NO_SUCH);
        due("visit(2)", x.visit(2), NO_SUCH);
        x.load(1, 3000);
        x.turn(0);
        x.pass(400);
        due("of(1, 5)", x.of(1, 5), 180);
        due("of(1, 4)", x.of(1, 4), 20);
        due("visit(1)", x.visit(1), 180 * 5 + 20 * 9);
        due("of(1, 7) of a whole seal", x.of(1, 7), 2);
        due("visit(1) again", x.visit(1), 0);
        due("of(1, 11)", x.of(1, 11), 2);
        due("of(1, 9)", x.of(1, 9), 1080);
        due("bill(0)", x.bill(0), 1080);
        x.pass(2);
        x.set(EnergyDiscs.DAY, 99);
        due("visit(1) with a tariff of now", x.visit(1), 99);
        due("of(1, 9)", x.of(1, 9), 1179);
        due("of(1, 4) stays", x.of(1, 4), 21);
        x.tamper(0);
        x.tamper(1);
        due("visit(1)", x.visit(1), 0);
        due("of(1, 7) after a broken seal", x.of(1, 7), 3);
        due("of(1, 8)", x.of(1, 8), 0);
        due("visit(0)", x.visit(0), 180 * 5 + 21 * 99);
        due("of(0, 7) after a broken seal", x.of(0, 7), 4);
        x.meter(0);
        due("of(2, 7) of a meter that comes then", x.of(2, 7), 5);
    }

    private static void visitMakesMagnetsNew() {
        EnergyDiscs x = Check.house(0);
        x.set(EnergyDiscs.AGE, 100);
        x.pass(250);
        due("of(0, 3)", x.of(0, 3), 102);
        due("of(0, 10)", x.of(0, 10), 50);
        x.visit(0);
        due("of(0, 3) after a visit", x.of(0, 3), 100);
        due("of(0, 10) after a visit", x.of(0, 10), 100);
    }

    private static void pass() {
        EnergyDiscs x = new EnergyDiscs();
        due("pass(0)", x.pass(0), BAD_VALUE);
        due("pass(-1)", x.pass(-1), BAD_VALUE);
        due("pass(1441)", x.pass(1441), BAD_VALUE);
        for (int i = 0; i < 69; i++) {
            due("pass(1440)", x.pass(1440), 0);
        }
        due("count(0)", x.count(0), 99360);
        due("pass(640)", x.pass(640), NOT_POSSIBLE);
        due("pass(1441) near the end", x.pass(1441), BAD_VALUE);
        due("count(0)", x.count(0), 99360);
        due("pass(639)", x.pass(639), 0);
        due("count(0)", x.count(0), 99999);
        due("pass(1)", x.pass(1), NOT_POSSIBLE);
    }

    private static void minuteAtTheStart() {
        EnergyDiscs x = Check.house(0);
        x.load(0, 15);
        x.turn(0);
        x.pass(5);
        due("of(0, 2) with the power START", x.of(0, 2), 0);
        x.set(EnergyDiscs.START, 14);
        x.pass(5);
        due("of(0, 2) with a power above START", x.of(0, 2), 75);
        x.set(EnergyDiscs.START, 99);
        x.pass(5);
        due("of(0, 2) with a power below START, where nothing creeps", x.of(0, 2), 75);
        due("misses(0)", x.misses(0), 10000000150L);
        x.set(EnergyDiscs.START, 0);
        x.pass(1);
        due("of(0, 2) with START being 0", x.of(0, 2), 90);
        x.turn(0);
        x.pass(1);
        due("of(0, 2) creeping without a load", x.of(0, 2), 92);
    }

    private static void minuteWithTheLeastPower() {
        EnergyDiscs x = Check.house(0);
        x.set(EnergyDiscs.HOLE, 0);
        x.load(0, 1);
        x.turn(0);
        x.pass(50);
        due("of(0, 2): with 1 W the disc stands, and does not creep", x.of(0, 2), 0);
    }

    private static void minuteBetweenDayAndNight() {
        EnergyDiscs x = Check.house(0);
        x.load(0, 3000);
        x.turn(0);
        x.pass(100);
        x.pass(300);
        due("of(0, 5) after passing the minute 360", x.of(0, 5), 180);
        due("of(0, 4)", x.of(0, 4), 20);
        x.pass(400);
        x.visit(0);
        x.pass(640);
        due("of(0, 5) after passing the minute 1320", x.of(0, 5), 180 + 60);
        due("of(0, 4)", x.of(0, 4), 480);
        x.visit(0);
        x.pass(400);
        due("of(0, 5) after passing midnight and the minute 360", x.of(0, 5), 180 + 60 + 180);
        due("of(0, 4)", x.of(0, 4), 480 + 20);
    }

    private static void minuteCreeping() {
        EnergyDiscs x = Check.house(0);
        x.load(0, 1999);
        x.pass(10);
        due("of(0, 2): the hole at 0", x.of(0, 2), 0);
        x.turn(0);
        x.pass(3);
        x.turn(0);
        due("of(0, 2)", x.of(0, 2), 5997);
        x.set(EnergyDiscs.CREEP, 9);
        due("turnsIn(0)", x.turnsIn(0), 1);
        due("pass(2)", x.pass(2), 1);
        due("of(0, 2) after creeping to the hole", x.of(0, 2), 0);
        due("of(0, 5)", x.of(0, 5), 1);
        x.undo();
        x.tamper(0);
        due("pass(2) without creeping, for tampering", x.pass(2), 0);
        due("of(0, 2)", x.of(0, 2), 5997);
        x.visit(0);
        x.set(EnergyDiscs.HOLE, 0);
        due("pass(2) without a hole", x.pass(2), 1);
        due("of(0, 2) after creeping beyond the turn", x.of(0, 2), 15);
        x.set(EnergyDiscs.CREEP, 0);
        x.pass(100);
        due("of(0, 2) with CREEP being 0", x.of(0, 2), 15);
    }

    private static void minuteTurning() {
        EnergyDiscs x = Check.house(0, 0);
        for (int i = 0; i < 12; i++) {
            x.load(1, 4000);
            x.turn(i);
        }
        due("of(0, 1)", x.of(0, 1), 48000);
        due("pass(1): several turns in a minute", x.pass(1), 16);
        due("pass(359): by night", x.pass(359), 2 * 8 * 359);
        due("of(0, 5)", x.of(0, 5), 8 * 360);
        due("of(0, 4)", x.of(0, 4), 0);
        x.pass(1);
        due("of(0, 4) in the minute 360", x.of(0, 4), 8);
        x.visit(0);
        x.visit(1);
        x.set(EnergyDiscs.AGE, 5000);
        x.pass(958);
        due("count(0)", x.count(0), 1319);
        due("of(0, 5)", x.of(0, 5), 8 * 360);
        x.pass(1);
        due("of(0, 4) in the minute 1319", x.of(0, 4), 8 * 960);
        due("of(0, 5)", x.of(0, 5), 8 * 360);
        x.pass(1);
        due("of(0, 5) in the minute 1320", x.of(0, 5), 8 * 361);
        x.pass(239);
        due("of(0, 5) after midnight", x.of(0, 5), 8 * 600);
        due("of(0, 6)", x.of(0, 6), 8 * 1560);
    }

    private static void minuteTampered() {
        EnergyDiscs x = Check.house(0);
        x.load(0, 21);
        x.turn(0);
        x.tamper(0);
        x.pass(3);
        due("of(0, 2): half of 21, rounded down", x.of(0, 2), 30);
        x.set(EnergyDiscs.AGE, 100);
        x.pass(97);
        due("of(0, 3)", x.of(0, 3), 101);
        due("of(0, 2)", x.of(0, 2), 1000);
        x.pass(399);
        due("of(0, 3)", x.of(0, 3), 104);
        due("of(0, 2): 21 * 104 / 100 is 21 still", x.of(0, 2), 4990);
        x.pass(2);
        due("of(0, 2): 21 * 105 / 100 is 22", x.of(0, 2), 5011);
    }

    private static void minuteAgeing() {
        EnergyDiscs x = Check.house(0);
        x.load(0, 150);
        x.turn(0);
        x.set(EnergyDiscs.AGE, 100);
        x.pass(99);
        due("of(0, 3) at 99 minutes", x.of(0, 3), 100);
        due("of(0, 10)", x.of(0, 10), 1);
        x.pass(1);
        due("of(0, 3) at 100 minutes", x.of(0, 3), 101);
        due("of(0, 2): still at the old speed", x.of(0, 2), 15000 % 6000);
        due("of(0, 10)", x.of(0, 10), 100);
        x.pass(1);
        due("of(0, 2): 150 * 101 / 100", x.of(0, 2), 3151);
        for (int i = 0; i < 4; i++) {
            x.pass(1440);
        }
        due("of(0, 3)", x.of(0, 3), 158);
        due("of(0, 10)", x.of(0, 10), 39);
        x.pass(239);
        due("of(0, 3) at most", x.of(0, 3), 160);
        due("of(0, 10) at most", x.of(0, 10), NONE);
        x.pass(1440);
        due("of(0, 3) at most", x.of(0, 3), 160);
    }

    private static void minuteWithALowerAge() {
        EnergyDiscs x = Check.house(0);
        x.pass(500);
        x.set(EnergyDiscs.AGE, 200);
        due("of(0, 10)", x.of(0, 10), 1);
        x.pass(1);
        due("of(0, 3): one more at once, not two", x.of(0, 3), 101);
        due("of(0, 10)", x.of(0, 10), 200);
    }

    public static void main(String[] args) {
        newObject();
        set();
        meter();
        newOnesInThePlaceOfOthers();
        load();
        turn();
        tamper();
        visit();
        visitMakesMagnetsNew();
        pass();
        minuteAtTheStart();
        minuteWithTheLeastPower();
        minuteBetweenDayAndNight();
        minuteCreeping();
        minuteTurning();
        minuteTampered();
        minuteAgeing();
        minuteWithALowerAge();
        Check.end();
    }
}
