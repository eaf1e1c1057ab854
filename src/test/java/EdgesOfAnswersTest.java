/** The boundary cases of what a house can be asked for: promises 11 to 13, 15, 19 and 20. */
public final class EdgesOfAnswersTest {
    private static final int NO_SUCH = EnergyDiscs.NO_SUCH;
    private static final int BAD_VALUE = EnergyDiscs.BAD_VALUE;
    private static final int NONE = EnergyDiscs.NONE;
    private static final int[] EXTREMES = Houses.EXTREMES;
    private static final int[] OUTSIDE_OF_SEVEN = {-1, 7, EXTREMES[0], EXTREMES[1]};
    private static final long NOTHING_MISSED = 10000000000L;
    private static final int NO_LAG = 10000000;

    private static void due(String call, long got, long want) {
        Check.due(call, got, want);
    }

    private static void of() {
        Check.sentence("Returns the number; NO_SUCH if there is no such meter; BAD_VALUE if what is out of range.");
        due("of(0, 0) in an empty house", Houses.empty().of(0, 0), NO_SUCH);
        due("of(0, 12) in an empty house", Houses.empty().of(0, 12), NO_SUCH);
        EnergyDiscs x = Houses.chain();
        for (int meter : OUTSIDE_OF_SEVEN) {
            due("of(" + meter + ", 0)", x.of(meter, 0), NO_SUCH);
            due("of(" + meter + ", 11)", x.of(meter, 11), NO_SUCH);
            due("of(" + meter + ", -1)", x.of(meter, -1), NO_SUCH);
            due("of(" + meter + ", 12)", x.of(meter, 12), NO_SUCH);
        }
        for (int meter : new int[] {0, 6}) {
            for (int what : new int[] {-1, 12, EXTREMES[0], EXTREMES[1]}) {
                due("of(" + meter + ", " + what + ")", x.of(meter, what), BAD_VALUE);
            }
        }
        int[] first = {NONE, 0, 0, 100, 0, 0, 0, 1, 0, 0, 1000, 0};
        int[] last = {5, 0, 0, 100, 0, 0, 0, 7, 0, 0, 1000, 0};
        for (int what = 0; what <= 11; what++) {
            due("of(0, " + what + ")", x.of(0, what), first[what]);
            due("of(6, " + what + ")", x.of(6, what), last[what]);
        }
    }

    private static void fedFromOutside() {
        Check.sentence("0 the meter through which it is fed (NONE)");
        EnergyDiscs x = Houses.chain();
        due("of(0, 0)", x.of(0, 0), NONE);
        due("of(1, 0)", x.of(1, 0), 0);
        due("of(6, 0)", x.of(6, 0), 5);
    }

    private static void minutesUntilWeaker() {
        Check.sentence("10 minutes until its magnets get weaker (1 at least; NONE with the speed 160)");
        EnergyDiscs x = Check.house(0);
        due("of(0, 10) of new magnets", x.of(0, 10), 1000);
        x.pass(998);
        due("of(0, 10)", x.of(0, 10), 2);
        x.pass(1);
        due("of(0, 10)", x.of(0, 10), 1);
        x.set(EnergyDiscs.AGE, 999);
        due("of(0, 10) with the age AGE", x.of(0, 10), 1);
        x.set(EnergyDiscs.AGE, 100);
        due("of(0, 10) with an age far above AGE", x.of(0, 10), 1);
        x.set(EnergyDiscs.AGE, 5000);
        due("of(0, 10)", x.of(0, 10), 4001);
        EnergyDiscs weak = Houses.withTheGreatestSpeed();
        due("of(0, 10) with the speed 160", weak.of(0, 10), NONE);
        weak.undo();
        weak.pass(1);
        due("of(0, 10) with a speed below 160", weak.of(0, 10) > 0 ? 1 : 0, 1);
    }

    private static void visitsSoFar() {
        Check.sentence("11 how many visits so far");
        EnergyDiscs x = Check.house(0, 0);
        for (int i = 0; i < 100; i++) {
            due("of(1, 11)", x.of(1, 11), i);
            x.visit(1);
        }
        due("of(0, 11)", x.of(0, 11), 0);
        x.undo();
        due("of(1, 11) after undo()", x.of(1, 11), 99);
    }

    private static void ofLoad() {
        Check.sentence("Returns the number; NO_SUCH if there is no such load; BAD_VALUE if what is out of range.");
        due("ofLoad(0, 0) in an empty house", Houses.empty().ofLoad(0, 0), NO_SUCH);
        due("ofLoad(0, 3) in an empty house", Houses.empty().ofLoad(0, 3), NO_SUCH);
        due("ofLoad(0, 0) with a meter alone", Check.house(0).ofLoad(0, 0), NO_SUCH);
        EnergyDiscs x = Houses.full();
        for (int load : new int[] {-1, 12, EXTREMES[0], EXTREMES[1]}) {
            due("ofLoad(" + load + ", 0)", x.ofLoad(load, 0), NO_SUCH);
            due("ofLoad(" + load + ", -1)", x.ofLoad(load, -1), NO_SUCH);
            due("ofLoad(" + load + ", 3)", x.ofLoad(load, 3), NO_SUCH);
        }
        for (int load : new int[] {0, 11}) {
            for (int what : new int[] {-1, 3, EXTREMES[0], EXTREMES[1]}) {
                due("ofLoad(" + load + ", " + what + ")", x.ofLoad(load, what), BAD_VALUE);
            }
        }
        due("ofLoad(0, 0)", x.ofLoad(0, 0), 0);
        due("ofLoad(0, 1)", x.ofLoad(0, 1), 4000);
        due("ofLoad(0, 2)", x.ofLoad(0, 2), 1);
        due("ofLoad(11, 0)", x.ofLoad(11, 0), 4);
        due("ofLoad(11, 1)", x.ofLoad(11, 1), 700);
        due("ofLoad(3, 2)", x.ofLoad(3, 2), 0);
    }

    private static void misses() {
        Check.sentence("Returns the watt minutes and 10000000000; NO_SUCH if there is no such meter.");
        due("misses(0) in an empty house", Houses.empty().misses(0), NO_SUCH);
        EnergyDiscs x = Houses.chain();
        for (int meter : OUTSIDE_OF_SEVEN) {
            due("misses(" + meter + ")", x.misses(meter), NO_SUCH);
        }
        due("misses(0)", x.misses(0), NOTHING_MISSED);
        due("misses(6)", x.misses(6), NOTHING_MISSED);
        EnergyDiscs y = Houses.withPower(1);
        y.pass(1);
        due("misses(0) of 1 W that is not seen", y.misses(0), NOTHING_MISSED + 1);
        y.turn(0);
        y.set(EnergyDiscs.HOLE, 0);
        y.set(EnergyDiscs.CREEP, 1);
        y.pass(1);
        due("misses(0) of 1 that was crept as well", y.misses(0), NOTHING_MISSED);
        y.pass(1);
        due("misses(0) of 1 more that was crept", y.misses(0), NOTHING_MISSED - 1);
    }

    private static void missesTheMost() {
        Check.sentence("what flowed in truth, less 6000 for each of its turns, less the place of its disc.");
        EnergyDiscs x = Houses.withPower(48000);
        x.set(EnergyDiscs.AGE, 5000);
        x.tamper(0);
        for (int i = 0; i < 69; i++) {
            x.pass(1440);
            x.visit(0);
            x.tamper(0);
        }
        x.pass(639);
        due("misses(0) of half in all the time", x.misses(0), NOTHING_MISSED + 24000L * Houses.LATEST);
        due("of(0, 6)", x.of(0, 6), 8 * Houses.LATEST);
        EnergyDiscs y = Houses.withTheGreatestSpeed();
        Houses.addPower(y, 0, 48000);
        Houses.passTo(y, Houses.LATEST);
        due("misses(0) of a disc that is too fast for long", y.misses(0), NOTHING_MISSED - 28800L * (Houses.LATEST - 6000));
    }

    private static void count() {
        Check.sentence("Returns the number; BAD_VALUE if what is out of range.");
        for (EnergyDiscs x : new EnergyDiscs[] {Houses.empty(), Houses.full()}) {
            for (int what : new int[] {-1, 17, EXTREMES[0], EXTREMES[1]}) {
                due("count(" + what + ")", x.count(what), BAD_VALUE);
            }
        }
        EnergyDiscs none = Houses.empty();
        int[] want = {0, 1, 0, 0, 0, 0, 0, 0, 0, 15, 2, 1, 1000, 9, 5, 0, 0};
        for (int what = 0; what <= 16; what++) {
            due("count(" + what + ") of an empty house", none.count(what), want[what]);
        }
    }

    private static void countOfAFullHouse() {
        Check.sentence("2 meters, 3 loads, 4 loads that are on, as a set, 5 meters with broken seals, as a set");
        EnergyDiscs x = Houses.chain();
        for (int i = 0; i < 12; i++) {
            x.load(6, 4000);
            due("count(4)", x.count(4), (1 << i) - 1);
            x.turn(i);
        }
        for (int i = 0; i < 7; i++) {
            x.tamper(i);
        }
        due("count(2)", x.count(2), 7);
        due("count(3)", x.count(3), 12);
        due("count(4)", x.count(4), 4095);
        due("count(5)", x.count(5), 127);
        x.turn(0);
        x.visit(0);
        due("count(4)", x.count(4), 4094);
        due("count(5)", x.count(5), 126);
        x.turn(11);
        x.visit(6);
        due("count(4)", x.count(4), 2046);
        due("count(5)", x.count(5), 62);
        Check.sentence("15 the length of the pad, 16 how many changes can be undone");
        due("count(16)", x.count(16), 6);
        EnergyDiscs full = Houses.full();
        due("count(15) of a full pad", full.count(15), 80);
        full.wipe();
        due("count(15) of an empty pad", full.count(15), 0);
    }

    private static void countOfTurnsAndCoins() {
        Check.sentence("6 turns of all discs so far, 7 coins billed so far, 8 the greatest number of a seal (0 without)");
        EnergyDiscs x = Houses.chain();
        x.load(6, 4000);
        x.load(6, 2000);
        x.turn(0);
        x.turn(1);
        x.pass(3);
        due("count(6)", x.count(6), 21);
        due("count(7)", x.count(7), 0);
        for (int i = 0; i < 7; i++) {
            x.visit(i);
            due("count(7)", x.count(7), 15 * (i + 1));
        }
        due("count(6)", x.count(6), 21);
        due("count(8)", x.count(8), 7);
        due("count(8) without meters", Houses.empty().count(8), 0);
        due("count(8) with one", Check.house(0).count(8), 1);
    }

    private static void worst() {
        Check.sentence("Returns the meter; NONE without meters.");
        due("worst() in an empty house", Houses.empty().worst(), NONE);
        due("worst() with one meter", Check.house(0).worst(), 0);
        EnergyDiscs x = Check.house(0);
        x.undo();
        due("worst() without meters again", x.worst(), NONE);
        Check.sentence("Finds the meter that misses the most, of several the lowest one.");
        x = Houses.chain();
        due("worst() of 7 that miss nothing", x.worst(), 0);
        x.turn(x.load(6, 15));
        x.pass(1);
        due("worst() of 7 that miss 15", x.worst(), 0);
        x = Check.house(0, 0, 0, 0, 0, 0, 0);
        x.turn(x.load(5, 15));
        x.turn(x.load(6, 15));
        x.pass(1);
        due("worst() of 5 and 6 that miss 15", x.worst(), 5);
        x.turn(x.load(6, 1));
        x.tamper(6);
        x.pass(1);
        due("worst(), the last one by a little less", x.worst(), 5);
        x.undo();
        x.turn(0);
        x.pass(1);
        due("worst() is the last one", x.worst(), 6);
    }

    private static void worstBelowZero() {
        Check.sentence("Finds the meter that misses the most");
        EnergyDiscs x = Check.house(0, 0, 0);
        x.set(EnergyDiscs.HOLE, 0);
        x.pass(1);
        due("worst() of 3 that are ahead by 2", x.worst(), 0);
        x.turn(x.load(2, 1));
        x.pass(1);
        due("worst(): 2 is ahead by 1, and so is 0", x.worst(), 0);
        x.turn(x.load(1, 1));
        x.turn(0);
        x.pass(1);
        due("worst(): 0 misses nothing", x.worst(), 0);
        x = Check.house(0, 0);
        x.set(EnergyDiscs.AGE, 100);
        x.pass(100);
        x.visit(1);
        Houses.addPower(x, 1, 1000);
        x.pass(1);
        due("worst(): 0 is ahead by 10", x.worst(), 1);
    }

    private static void worstByMuch() {
        Check.sentence("Finds the meter that misses the most");
        EnergyDiscs x = Check.house(0, 0);
        Houses.addPower(x, 1, 48000);
        x.set(EnergyDiscs.AGE, 5000);
        for (int i = 0; i < 65; i++) {
            x.visit(0);
            x.visit(1);
            x.tamper(1);
            x.pass(1440);
        }
        due("misses(1), which is more than an int holds", x.misses(1), NOTHING_MISSED + 24000L * 65 * 1440);
        due("worst()", x.worst(), 1);
    }

    private static void lags() {
        Check.sentence("Returns the number; NO_SUCH if there is no such meter.");
        due("lags(0) in an empty house", Houses.empty().lags(0), NO_SUCH);
        EnergyDiscs x = Houses.chain();
        for (int meter : OUTSIDE_OF_SEVEN) {
            due("lags(" + meter + ")", x.lags(meter), NO_SUCH);
        }
        due("lags(6)", x.lags(6), NO_LAG);
        Check.sentence("Returns how many turns more than a meter the meters have made that are fed through it next "
            + "(not one through another), together: their turns less its own, and 10000000.");
        Houses.addPower(x, 6, 6000);
        x.tamper(5);
        x.pass(10);
        int[] chain = {0, 0, 0, 0, -5, 5, -10};
        for (int i = 0; i < 7; i++) {
            due("lags(" + i + ") of a chain", x.lags(i), NO_LAG + chain[i]);
        }
        EnergyDiscs star = Check.house(0, 0, 0, 0, 0, 0, 0);
        star.turn(star.load(0, 4000));
        for (int i = 1; i < 7; i++) {
            star.turn(star.load(i, 3000));
        }
        star.pass(6);
        due("lags(0) of a star", star.lags(0), NO_LAG + 6 * 3 - 22);
        due("lags(6) of a star", star.lags(6), NO_LAG - 3);
        star.tamper(0);
        star.pass(6);
        due("lags(0) of a star, tampered with", star.lags(0), NO_LAG + 6 * 6 - 33);
        due("lags(0) of one meter without turns", Check.house(0).lags(0), NO_LAG);
    }

    private static void lagsByMuch() {
        Check.sentence("their turns less its own, and 10000000.");
        EnergyDiscs x = Houses.withTheGreatestSpeed();
        Houses.addPower(x, 0, 48000);
        Houses.passTo(x, Houses.LATEST);
        int turns = (int) ((Houses.LATEST - 6000) * 76800L / 6000);
        due("lags(0)", x.lags(0), NO_LAG - turns);
    }

    public static void main(String[] args) {
        of();
        fedFromOutside();
        minutesUntilWeaker();
        visitsSoFar();
        ofLoad();
        misses();
        missesTheMost();
        count();
        countOfAFullHouse();
        countOfTurnsAndCoins();
        worst();
        worstBelowZero();
        worstByMuch();
        lags();
        lagsByMuch();
        Check.end();
    }
}
