/** Promises 11 to 20: of, ofLoad, misses, fed, count, bill, turnsIn, wouldTurn, worst, lags. */
public final class AnswersTest {
    private static final int NO_SUCH = EnergyDiscs.NO_SUCH;
    private static final int BAD_VALUE = EnergyDiscs.BAD_VALUE;
    private static final int NONE = EnergyDiscs.NONE;

    private static void due(String call, long got, long want) {
        Check.due(call, got, want);
    }

    /** Meters 1 and 2 behind 0, 3 behind 1, 4 behind 3; 3000 W behind 4 and 600 W behind 2. */
    private static EnergyDiscs tree() {
        EnergyDiscs x = Check.house(0, 0, 0, 1, 3);
        x.load(4, 3000);
        x.load(2, 600);
        x.turn(0);
        x.turn(1);
        return x;
    }

    private static void of() {
        EnergyDiscs x = tree();
        due("of(-1, 0)", x.of(-1, 0), NO_SUCH);
        due("of(5, 99)", x.of(5, 99), NO_SUCH);
        due("of(0, -1)", x.of(0, -1), BAD_VALUE);
        due("of(0, 12)", x.of(0, 12), BAD_VALUE);
        int[] powers = {3600, 3000, 600, 3000, 3000};
        int[] through = {NONE, 0, 0, 1, 3};
        for (int i = 0; i < 5; i++) {
            due("of(" + i + ", 0)", x.of(i, 0), through[i]);
            due("of(" + i + ", 1)", x.of(i, 1), powers[i]);
        }
        x.pass(369);
        x.tamper(2);
        long[] want = {0, 600, 5400, 100, 0, 36, 36, 3, 1, 0, 631, 0};
        for (int what = 0; what < want.length; what++) {
            due("of(2, " + what + ")", x.of(2, what), want[what]);
        }
        x.pass(1);
        due("of(2, 2): half for tampering", x.of(2, 2), 5700);
        due("of(2, 6): what flowed in truth", x.of(2, 6), 37);
        x.pass(1);
        due("of(2, 4)", x.of(2, 4), 1);
        due("visit(2)", x.visit(2), 36 * 5 + 9);
        long[] then = {0, 600, 0, 100, 1, 36, 37, 6, 0, 189, 1000, 1};
        for (int what = 0; what < then.length; what++) {
            due("of(2, " + what + ")", x.of(2, what), then[what]);
        }
    }

    private static void ofLoad() {
        EnergyDiscs x = tree();
        due("ofLoad(-1, 9)", x.ofLoad(-1, 9), NO_SUCH);
        due("ofLoad(2, 0)", x.ofLoad(2, 0), NO_SUCH);
        due("ofLoad(0, -1)", x.ofLoad(0, -1), BAD_VALUE);
        due("ofLoad(0, 3)", x.ofLoad(0, 3), BAD_VALUE);
        due("ofLoad(0, 0)", x.ofLoad(0, 0), 4);
        due("ofLoad(0, 1)", x.ofLoad(0, 1), 3000);
        due("ofLoad(0, 2)", x.ofLoad(0, 2), 1);
        x.turn(0);
        due("ofLoad(0, 2)", x.ofLoad(0, 2), 0);
        due("ofLoad(1, 2)", x.ofLoad(1, 2), 1);
    }

    private static void misses() {
        EnergyDiscs x = Check.house(0, 0);
        due("misses(-1)", x.misses(-1), NO_SUCH);
        due("misses(2)", x.misses(2), NO_SUCH);
        due("misses(0)", x.misses(0), 10000000000L);
        x.load(1, 4000);
        x.turn(0);
        x.tamper(1);
        x.pass(10);
        due("misses(1)", x.misses(1), 10000020000L);
        due("misses(0)", x.misses(0), 10000000000L);
        x.set(EnergyDiscs.AGE, 100);
        x.pass(90);
        x.pass(1);
        due("misses(0) of a disc that is too fast", x.misses(0), 9999999960L);
    }

    private static void missesMuch() {
        EnergyDiscs x = Check.house(0);
        for (int i = 0; i < 12; i++) {
            x.load(0, 4000);
            x.turn(i);
        }
        x.set(EnergyDiscs.AGE, 5000);
        for (int i = 0; i < 69; i++) {
            x.pass(1440);
            x.visit(0);
        }
        due("of(0, 6)", x.of(0, 6), 69 * 1440 * 8);
        due("misses(0) of much", x.misses(0), 10000000000L);
        x.tamper(0);
        x.pass(600);
        due("misses(0) of much", x.misses(0), 10000000000L + 24000 * 600);
        due("of(0, 6)", x.of(0, 6), 69 * 1440 * 8 + 4800);
    }

    private static void fed() {
        EnergyDiscs x = tree();
        int[] want = {31, 26, 4, 24, 16};
        for (int i = 0; i < 5; i++) {
            due("fed(" + i + ")", x.fed(i), want[i]);
        }
        due("fed(5)", x.fed(5), NO_SUCH);
        due("fed(-1)", x.fed(-1), NO_SUCH);
    }

    private static void count() {
        EnergyDiscs x = tree();
        due("count(-1)", x.count(-1), BAD_VALUE);
        due("count(17)", x.count(17), BAD_VALUE);
        x.load(0, 1);
        x.load(0, 1);
        x.turn(3);
        due("count(4)", x.count(4), 11);
        x.turn(0);
        due("count(4)", x.count(4), 10);
        due("count(2)", x.count(2), 5);
        due("count(3)", x.count(3), 4);
        x.tamper(1);
        x.tamper(4);
        due("count(5)", x.count(5), 18);
        x.tamper(0);
        due("count(5)", x.count(5), 19);
        x.visit(0);
        due("count(5)", x.count(5), 18);
        x.pass(370);
        due("count(0)", x.count(0), 370);
        due("count(6)", x.count(6), 37 + 37);
        x.visit(2);
        x.visit(4);
        due("count(7)", x.count(7), 36 * 5 + 9);
        x.visit(0);
        due("count(7)", x.count(7), 2 * (36 * 5 + 9));
        due("count(8)", x.count(8), 7);
        due("count(5)", x.count(5), 2);
        x.put('x');
        due("count(15)", x.count(15), 1);
        due("count(16)", x.count(16), 6);
        for (int i = 0; i < 6; i++) {
            int value = i == EnergyDiscs.AGE ? 777 : i == EnergyDiscs.HOLE ? 0 : 7;
            x.set(i, value);
            due("count(9 + " + i + ")", x.count(9 + i), value);
        }
    }

    private static void countNight() {
        EnergyDiscs x = new EnergyDiscs();
        x.pass(359);
        due("count(1) at 359", x.count(1), 1);
        x.pass(1);
        due("count(1) at 360", x.count(1), 0);
        x.pass(959);
        due("count(1) at 1319", x.count(1), 0);
        x.pass(1);
        due("count(1) at 1320", x.count(1), 1);
        x.pass(120);
        due("count(1) at 1440", x.count(1), 1);
        x.pass(360);
        due("count(1) at 1800", x.count(1), 0);
    }

    private static void bill() {
        EnergyDiscs x = tree();
        due("bill(-1)", x.bill(-1), NO_SUCH);
        due("bill(5)", x.bill(5), NO_SUCH);
        due("bill(2)", x.bill(2), 0);
        x.pass(380);
        String before = Check.told(x);
        due("bill(2)", x.bill(2), 36 * 5 + 2 * 9);
        Check.same("bill() changes nothing", Check.told(x), before);
        x.set(EnergyDiscs.NIGHT, 0);
        due("bill(2) with a tariff of now", x.bill(2), 2 * 9);
        due("visit(2)", x.visit(2), 2 * 9);
        due("bill(2)", x.bill(2), 0);
    }

    private static void turnsIn() {
        EnergyDiscs x = tree();
        due("turnsIn(-1)", x.turnsIn(-1), NO_SUCH);
        due("turnsIn(5)", x.turnsIn(5), NO_SUCH);
        due("turnsIn(4)", x.turnsIn(4), 2);
        due("turnsIn(0)", x.turnsIn(0), 2);
        due("turnsIn(2)", x.turnsIn(2), 10);
        x.pass(9);
        String before = Check.told(x);
        due("turnsIn(2)", x.turnsIn(2), 1);
        Check.same("turnsIn() changes nothing", Check.told(x), before);
        x.turn(0);
        x.turn(1);
        due("turnsIn(2) creeping", x.turnsIn(2), 300);
        due("turnsIn(4) creeping", x.turnsIn(4), 1500);
        x.tamper(2);
        due("turnsIn(2), which stands", x.turnsIn(2), NONE);
    }

    private static void turnsInFar() {
        EnergyDiscs x = Check.house(0);
        x.set(EnergyDiscs.HOLE, 0);
        due("turnsIn(0) in 3000", x.turnsIn(0), 3000);
        x.set(EnergyDiscs.CREEP, 1);
        due("turnsIn(0) above 3000", x.turnsIn(0), NONE);
        x.load(0, 16);
        x.turn(0);
        x.set(EnergyDiscs.AGE, 100);
        // 16 for 700 minutes, then 17 from the speed 107 on, for 600: 11200 > 6000 long before.
        due("turnsIn(0)", x.turnsIn(0), 375);
        x.pass(375);
        x.pass(325);
        // The speed is 107 from here, and the place 325 * 16 = 5200: 800 more by 17 a minute.
        due("turnsIn(0) with weaker magnets", x.turnsIn(0), 48);
        for (int i = 0; i < 68; i++) {
            x.pass(1440);
        }
        x.pass(1379);
        due("count(0)", x.count(0), 99999);
        due("turnsIn(0) at the end of the time is told", x.turnsIn(0) > 0 ? 1 : 0, 1);
    }

    private static void turnsInAtTheEdge() {
        EnergyDiscs x = Check.house(0);
        x.set(EnergyDiscs.START, 0);
        x.set(EnergyDiscs.AGE, 5000);
        x.load(0, 1);
        x.turn(0);
        x.pass(1440);
        x.pass(1440);
        x.pass(119);
        due("of(0, 2)", x.of(0, 2), 2999);
        due("turnsIn(0) in 3001", x.turnsIn(0), NONE);
        x.pass(1);
        due("turnsIn(0) in 3000", x.turnsIn(0), 3000);
    }

    private static void wouldTurn() {
        EnergyDiscs x = tree();
        due("wouldTurn(5, 0, 0)", x.wouldTurn(5, 0, 0), NO_SUCH);
        due("wouldTurn(-1, 1, 0)", x.wouldTurn(-1, 1, 0), NO_SUCH);
        due("wouldTurn(0, 0, 0)", x.wouldTurn(0, 0, 0), BAD_VALUE);
        due("wouldTurn(0, 1441, 0)", x.wouldTurn(0, 1441, 0), BAD_VALUE);
        due("wouldTurn(0, 1, -1)", x.wouldTurn(0, 1, -1), BAD_VALUE);
        due("wouldTurn(0, 1, 2)", x.wouldTurn(0, 1, 2), BAD_VALUE);
        String before = Check.told(x);
        due("wouldTurn(2, 380, 1)", x.wouldTurn(2, 380, 1), 36);
        due("wouldTurn(2, 380, 0)", x.wouldTurn(2, 380, 0), 2);
        due("wouldTurn(2, 1, 0)", x.wouldTurn(2, 1, 0), 0);
        due("wouldTurn(2, 9, 1)", x.wouldTurn(2, 9, 1), 0);
        due("wouldTurn(2, 10, 1)", x.wouldTurn(2, 10, 1), 1);
        // 640 minutes by day with 3000, and 320 with 3030, as the magnets get weaker at 1000.
        due("wouldTurn(4, 1440, 0)", x.wouldTurn(4, 1440, 0), 320 + 161);
        Check.same("wouldTurn() changes nothing", Check.told(x), before);
        due("count(16)", x.count(16), 6);
        x.pass(20);
        due("wouldTurn(2, 10, 1) after some turns", x.wouldTurn(2, 10, 1), 1);
        x.pass(350);
        due("wouldTurn(2, 10, 0) after some turns", x.wouldTurn(2, 10, 0), 1);
        x.pass(1070);
        x.visit(2);
        x.set(EnergyDiscs.AGE, 5000);
        for (int i = 1; i < 69; i++) {
            x.pass(1440);
            x.visit(2);
        }
        due("wouldTurn(2, 999, 0) beyond the time", x.wouldTurn(2, 999, 0), (x.of(2, 2) + 383400) / 6000);
        due("pass(999)", x.pass(999), EnergyDiscs.NOT_POSSIBLE);
    }

    private static void worst() {
        EnergyDiscs x = new EnergyDiscs();
        due("worst() without meters", x.worst(), NONE);
        x.meter(0);
        x.meter(0);
        x.meter(0);
        due("worst() of equal ones", x.worst(), 0);
        x.load(1, 10);
        x.load(2, 10);
        x.turn(0);
        x.turn(1);
        x.pass(5);
        due("worst(): 20 W move the meter 0", x.worst(), 1);
        x.tamper(2);
        x.tamper(0);
        x.pass(1);
        due("worst() of equal ones", x.worst(), 1);
        x.set(EnergyDiscs.START, 0);
        x.pass(1);
        due("worst(): half of 10 is missed", x.worst(), 2);
        EnergyDiscs y = Check.house(0, 0);
        y.set(EnergyDiscs.HOLE, 0);
        y.load(1, 1);
        y.pass(1);
        y.turn(0);
        y.pass(1);
        due("worst() of two that are ahead", y.worst(), 0);
    }

    private static void lags() {
        EnergyDiscs x = tree();
        due("lags(-1)", x.lags(-1), NO_SUCH);
        due("lags(5)", x.lags(5), NO_SUCH);
        due("lags(0)", x.lags(0), 10000000);
        x.tamper(3);
        x.tamper(4);
        x.pass(20);
        due("lags(4) without meters behind", x.lags(4), 10000000 - 5);
        due("lags(3)", x.lags(3), 10000000);
        due("lags(1)", x.lags(1), 10000000 + 5 - 10);
        due("lags(0), of 1 and 2 alone", x.lags(0), 10000000 + 10 + 2 - 12);
        x.tamper(0);
        x.pass(20);
        due("lags(0)", x.lags(0), 10000000 + 20 + 4 - 18);
        x.meter(0);
        x.meter(4);
        due("lags(0) with 7 meters", x.lags(0), 10000000 + 20 + 4 - 18);
        due("lags(6) with 7 meters", x.lags(6), 10000000);
        due("worst() with 7 meters", x.worst(), 3);
        due("fed(4) with 7 meters", x.fed(4), 80);
    }

    public static void main(String[] args) {
        of();
        ofLoad();
        misses();
        missesMuch();
        fed();
        count();
        countNight();
        bill();
        turnsIn();
        turnsInFar();
        turnsInAtTheEdge();
        wouldTurn();
        worst();
        lags();
        Check.end();
    }
}
