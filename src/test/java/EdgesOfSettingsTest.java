/** The boundary cases of a new house, the settings, meters and loads: the document's terms, and promises 1 to 5 and 14. */
public final class EdgesOfSettingsTest {
    private static final int NO_SUCH = EnergyDiscs.NO_SUCH;
    private static final int BAD_VALUE = EnergyDiscs.BAD_VALUE;
    private static final int TOO_MANY = EnergyDiscs.TOO_MANY;
    private static final int NONE = EnergyDiscs.NONE;
    private static final int[] EXTREMES = Houses.EXTREMES;
    private static final int COUNT_OF_SETTINGS = 9;

    private static void due(String call, long got, long want) {
        Check.due(call, got, want);
    }

    private static void newHouse() {
        Check.sentence("Creates a house without meters, at the time 0.");
        EnergyDiscs x = Houses.empty();
        due("count(0)", x.count(0), 0);
        due("count(2)", x.count(2), 0);
        due("count(3)", x.count(3), 0);
        due("fed(0)", x.fed(0), NO_SUCH);
        due("worst()", x.worst(), NONE);
        due("pass(1440)", x.pass(1440), 0);
        due("count(6)", x.count(6), 0);
        due("count(7)", x.count(7), 0);
    }

    private static void noSuchSetting() {
        Check.sentence("BAD_VALUE if there is no such setting");
        EnergyDiscs x = Houses.empty();
        due("set(0, 1)", x.set(0, 1), 15);
        due("set(5, 1)", x.set(5, 1), 5);
        // 100 is in the range of AGE, 1 in that of all others.
        for (int value : new int[] {1, 100}) {
            due("set(-1, " + value + ")", x.set(-1, value), BAD_VALUE);
            due("set(6, " + value + ")", x.set(6, value), BAD_VALUE);
            for (int extreme : EXTREMES) {
                due("set(" + extreme + ", " + value + ")", x.set(extreme, value), BAD_VALUE);
            }
        }
        due("count(16)", x.count(16), 2);
    }

    private static void range(String words, int setting, int lowest, int highest, int first) {
        Check.sentence(words);
        EnergyDiscs x = Houses.empty();
        String call = "set(" + setting + ", ";
        int asked = COUNT_OF_SETTINGS + setting;
        due("count(" + asked + ")", x.count(asked), first);
        int[] outside = {lowest - 1, highest + 1, EXTREMES[0], EXTREMES[1]};
        for (int value : outside) {
            due(call + value + ")", x.set(setting, value), BAD_VALUE);
            due("count(" + asked + ")", x.count(asked), first);
        }
        due("count(16)", x.count(16), 0);
        due(call + lowest + ")", x.set(setting, lowest), first);
        due("count(" + asked + ")", x.count(asked), lowest);
        due(call + highest + ")", x.set(setting, highest), lowest);
        due("count(" + asked + ")", x.count(asked), highest);
        due(call + first + ")", x.set(setting, first), highest);
        due("count(16)", x.count(16), 3);
        Check.same("only that setting was another meanwhile", Check.told(x), Check.told(Houses.empty()));
    }

    private static void ranges() {
        range("START (0 to 99; 15)", EnergyDiscs.START, 0, 99, 15);
        range("CREEP (0 to 9; 2)", EnergyDiscs.CREEP, 0, 9, 2);
        range("HOLE (0 or 1; 1)", EnergyDiscs.HOLE, 0, 1, 1);
        range("AGE (100 to 5000; 1000)", EnergyDiscs.AGE, 100, 5000, 1000);
        range("DAY, NIGHT (0 to 99; 9, 5)", EnergyDiscs.DAY, 0, 99, 9);
        range("DAY, NIGHT (0 to 99; 9, 5)", EnergyDiscs.NIGHT, 0, 99, 5);
    }

    private static void previousValue() {
        Check.sentence("Returns the previous value");
        EnergyDiscs x = Houses.empty();
        due("set(AGE, 5000)", x.set(EnergyDiscs.AGE, 5000), 1000);
        due("set(AGE, 5001)", x.set(EnergyDiscs.AGE, 5001), BAD_VALUE);
        due("set(AGE, 5000): the same again", x.set(EnergyDiscs.AGE, 5000), 5000);
        due("set(HOLE, 0)", x.set(EnergyDiscs.HOLE, 0), 1);
        due("set(HOLE, 1)", x.set(EnergyDiscs.HOLE, 1), 0);
    }

    private static void atMostSevenMeters() {
        Check.sentence("There are up to 7 meters, numbered in the order in which they came");
        EnergyDiscs x = Houses.empty();
        for (int i = 0; i < 7; i++) {
            due("meter(0) with " + i, x.meter(0), i);
            due("count(2)", x.count(2), i + 1);
        }
        due("meter(0) with 7", x.meter(0), TOO_MANY);
        due("count(2)", x.count(2), 7);
        due("of(6, 7)", x.of(6, 7), 7);
        due("of(7, 7)", x.of(7, 7), NO_SUCH);
        x.undo();
        due("meter(5) with 6", x.meter(5), 6);
    }

    private static void firstMeter() {
        Check.sentence("whatever is told for the first meter");
        for (int through : new int[] {Integer.MIN_VALUE, -6, -1, 0, 1, 6, 7, Integer.MAX_VALUE}) {
            EnergyDiscs x = Houses.empty();
            due("meter(" + through + ")", x.meter(through), 0);
            due("of(0, 0): the meter 0 is fed from outside", x.of(0, 0), NONE);
            due("fed(0)", x.fed(0), 1);
        }
        EnergyDiscs x = Check.house(0);
        x.undo();
        due("meter(-1) as the first one again", x.meter(-1), 0);
    }

    private static void metersThroughLowerOnes() {
        Check.sentence("each other one through a meter with a lower number");
        EnergyDiscs x = Check.house(0);
        for (int number = 1; number < 7; number++) {
            due("meter(" + number + "): its own number", x.meter(number), NO_SUCH);
            due("meter(-1)", x.meter(-1), NO_SUCH);
            for (int extreme : EXTREMES) {
                due("meter(" + extreme + ")", x.meter(extreme), NO_SUCH);
            }
            int through = number % 2 == 0 ? 0 : number - 1;
            due("meter(" + through + ")", x.meter(through), number);
            due("of(" + number + ", 0)", x.of(number, 0), through);
        }
    }

    private static void meterIsRefusedInOrder() {
        Check.sentence("NO_SUCH if there are meters, and no such one; TOO_MANY if there are 7.");
        EnergyDiscs x = Houses.chain();
        due("meter(7) with 7", x.meter(7), NO_SUCH);
        due("meter(-1) with 7", x.meter(-1), NO_SUCH);
        due("meter(MIN) with 7", x.meter(EXTREMES[0]), NO_SUCH);
        due("meter(MAX) with 7", x.meter(EXTREMES[1]), NO_SUCH);
        due("meter(6) with 7", x.meter(6), TOO_MANY);
        due("meter(0) with 7", x.meter(0), TOO_MANY);
    }

    private static void newMeter() {
        Check.sentence("A meter has a disc with a place, 0 to 5999 (0 at first)");
        EnergyDiscs x = Houses.empty();
        x.save(1);
        x.meter(0);
        Houses.addPower(x, 0, 5555);
        x.pass(1440);
        x.visit(0);
        x.tamper(0);
        x.pass(999);
        due("restore(1) to a house without meters", x.restore(1), 0);
        due("meter(0) where another one was before", x.meter(0), 0);
        due("of(0, 2)", x.of(0, 2), 0);
        Check.sentence("It has a speed, 100 to 160 hundredths (100 at first)");
        due("of(0, 3)", x.of(0, 3), 100);
        Check.sentence("two registers of turns, for the day and the night; an energy that flowed in truth; and a seal, whole or broken.");
        due("of(0, 4)", x.of(0, 4), 0);
        due("of(0, 5)", x.of(0, 5), 0);
        due("of(0, 6)", x.of(0, 6), 0);
        due("misses(0)", x.misses(0), 10000000000L);
        due("of(0, 7)", x.of(0, 7), 1);
        due("of(0, 8)", x.of(0, 8), 0);
        due("of(0, 9)", x.of(0, 9), 0);
        due("of(0, 10)", x.of(0, 10), 1000);
        due("of(0, 11)", x.of(0, 11), 0);
        due("bill(0)", x.bill(0), 0);
    }

    private static void atMostTwelveLoads() {
        Check.sentence("There are up to 12 loads, numbered in the order in which they came");
        EnergyDiscs x = Check.house(0, 0);
        for (int i = 0; i < 12; i++) {
            due("load with " + i, x.load(i % 2, 100 + i), i);
            due("count(3)", x.count(3), i + 1);
        }
        due("load(0, 1) with 12", x.load(0, 1), TOO_MANY);
        due("count(3)", x.count(3), 12);
        due("ofLoad(11, 1)", x.ofLoad(11, 1), 111);
        due("ofLoad(12, 1)", x.ofLoad(12, 1), NO_SUCH);
        x.undo();
        due("load(1, 5) with 11", x.load(1, 5), 11);
    }

    private static void powerOfALoad() {
        Check.sentence("each behind a meter, with a power (1 to 4000)");
        EnergyDiscs x = Check.house(0);
        for (int power : new int[] {0, -1, 4001, EXTREMES[0], EXTREMES[1]}) {
            due("load(0, " + power + ")", x.load(0, power), BAD_VALUE);
        }
        due("count(3)", x.count(3), 0);
        due("load(0, 1)", x.load(0, 1), 0);
        due("load(0, 4000)", x.load(0, 4000), 1);
        due("ofLoad(0, 1)", x.ofLoad(0, 1), 1);
        due("ofLoad(1, 1)", x.ofLoad(1, 1), 4000);
    }

    private static void meterOfALoad() {
        Check.sentence("NO_SUCH if there is no such meter; BAD_VALUE if power is out of range; TOO_MANY if there are 12.");
        EnergyDiscs x = Houses.empty();
        due("load(0, 1) in an empty house", x.load(0, 1), NO_SUCH);
        due("load(0, 0) in an empty house", x.load(0, 0), NO_SUCH);
        x = Houses.full();
        for (int meter : new int[] {-1, 7, EXTREMES[0], EXTREMES[1]}) {
            due("load(" + meter + ", 4001) with 12", x.load(meter, 4001), NO_SUCH);
            due("load(" + meter + ", 1) with 12", x.load(meter, 1), NO_SUCH);
        }
        due("load(6, 4001) with 12", x.load(6, 4001), BAD_VALUE);
        due("load(6, 0) with 12", x.load(6, 0), BAD_VALUE);
        due("load(6, 4000) with 12", x.load(6, 4000), TOO_MANY);
        due("load(0, 1) with 12", x.load(0, 1), TOO_MANY);
        x = Houses.chain();
        due("load(6, 1) behind the last meter", x.load(6, 1), 0);
        due("load(0, 1) behind the first one", x.load(0, 1), 1);
        due("ofLoad(0, 0)", x.ofLoad(0, 0), 6);
        due("ofLoad(1, 0)", x.ofLoad(1, 0), 0);
    }

    private static void offAtFirst() {
        Check.sentence("on or off (off at first)");
        EnergyDiscs x = Check.house(0);
        x.save(0);
        x.turn(x.load(0, 9));
        due("ofLoad(0, 2)", x.ofLoad(0, 2), 1);
        due("restore(0) to a house without loads", x.restore(0), 1);
        due("load(0, 8) where one that is on was before", x.load(0, 8), 0);
        due("ofLoad(0, 2)", x.ofLoad(0, 2), 0);
        due("of(0, 1)", x.of(0, 1), 0);
        due("count(4)", x.count(4), 0);
    }

    private static void turn() {
        Check.sentence("Returns 1 if it is on then, otherwise 0; NO_SUCH if there is no such load.");
        EnergyDiscs x = Houses.empty();
        due("turn(0) in an empty house", x.turn(0), NO_SUCH);
        x = Check.house(0);
        due("turn(0) without loads", x.turn(0), NO_SUCH);
        for (int i = 0; i < 12; i++) {
            due("turn(" + i + ") of the next one that comes", x.turn(i), NO_SUCH);
            x.load(0, 1);
        }
        for (int load : new int[] {-1, 12, EXTREMES[0], EXTREMES[1]}) {
            due("turn(" + load + ")", x.turn(load), NO_SUCH);
        }
        due("turn(0)", x.turn(0), 1);
        due("turn(11)", x.turn(11), 1);
        due("count(4)", x.count(4), 1 + 2048);
        due("turn(11) again", x.turn(11), 0);
        due("turn(11) once more", x.turn(11), 1);
        due("turn(0) again", x.turn(0), 0);
        due("count(4)", x.count(4), 2048);
    }

    private static void powerOfAMeter() {
        Check.sentence("The power of a meter is that of all loads that are on behind it, "
            + "and behind all meters that are fed through it (also one through another).");
        EnergyDiscs x = Houses.chain();
        for (int i = 0; i < 7; i++) {
            due("of(" + i + ", 1) without loads", x.of(i, 1), 0);
            x.turn(x.load(i, 1 << i));
        }
        for (int i = 0; i < 7; i++) {
            due("of(" + i + ", 1) of a chain", x.of(i, 1), 128 - (1 << i));
        }
        x.turn(6);
        due("of(6, 1) with the load off", x.of(6, 1), 0);
        due("of(0, 1)", x.of(0, 1), 63);
        EnergyDiscs star = Check.house(0, 0, 0, 0, 0, 0, 0);
        for (int i = 0; i < 7; i++) {
            star.turn(star.load(i, 1 << i));
        }
        due("of(0, 1) of a star", star.of(0, 1), 127);
        for (int i = 1; i < 7; i++) {
            due("of(" + i + ", 1) of a star", star.of(i, 1), 1 << i);
        }
    }

    private static void greatestPower() {
        Check.sentence("There are up to 12 loads, numbered in the order in which they came, each behind a meter, with a power (1 to 4000)");
        EnergyDiscs x = Houses.chain();
        Houses.addPower(x, 6, 48000);
        for (int i = 0; i < 7; i++) {
            due("of(" + i + ", 1)", x.of(i, 1), 48000);
        }
        due("pass(1)", x.pass(1), 7 * 8);
    }

    private static void fed() {
        Check.sentence("Returns the meters that are fed through a meter, one through another, and itself.");
        EnergyDiscs x = Houses.chain();
        for (int i = 0; i < 7; i++) {
            due("fed(" + i + ") of a chain", x.fed(i), 128 - (1 << i));
        }
        EnergyDiscs star = Check.house(0, 0, 0, 0, 0, 0, 0);
        due("fed(0) of a star", star.fed(0), 127);
        due("fed(6) of a star", star.fed(6), 64);
        EnergyDiscs mixed = Check.house(0, 0, 1, 0, 2, 3, 4);
        due("fed(1)", mixed.fed(1), 2 + 4 + 16 + 64);
        due("fed(3)", mixed.fed(3), 8 + 32);
        Check.sentence("Returns the meters, as a set; NO_SUCH if there is no such meter.");
        due("fed(0) with one meter", Check.house(0).fed(0), 1);
        for (int meter : new int[] {-1, 7, EXTREMES[0], EXTREMES[1]}) {
            due("fed(" + meter + ")", x.fed(meter), NO_SUCH);
        }
        due("fed(0) in an empty house", Houses.empty().fed(0), NO_SUCH);
        due("fed(1) with one meter", Check.house(0).fed(1), NO_SUCH);
    }

    public static void main(String[] args) {
        newHouse();
        noSuchSetting();
        ranges();
        previousValue();
        atMostSevenMeters();
        firstMeter();
        metersThroughLowerOnes();
        meterIsRefusedInOrder();
        newMeter();
        atMostTwelveLoads();
        powerOfALoad();
        meterOfALoad();
        offAtFirst();
        turn();
        powerOfAMeter();
        greatestPower();
        fed();
        Check.end();
    }
}
