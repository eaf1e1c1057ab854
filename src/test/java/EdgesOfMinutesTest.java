/** The boundary cases of a minute and of the time: the document's "A minute", and promises 8, 17 and 18. */
public final class EdgesOfMinutesTest {
    private static final int NO_SUCH = EnergyDiscs.NO_SUCH;
    private static final int BAD_VALUE = EnergyDiscs.BAD_VALUE;
    private static final int NOT_POSSIBLE = EnergyDiscs.NOT_POSSIBLE;
    private static final int NONE = EnergyDiscs.NONE;
    private static final int[] EXTREMES = Houses.EXTREMES;
    private static final int LATEST = Houses.LATEST;

    private static void due(String call, long got, long want) {
        Check.due(call, got, want);
    }

    /** Lets minutes pass, and looks at the turns that the meter 0 makes in them, and at the place of its disc then. */
    private static void passes(String what, EnergyDiscs x, int minutes, int turns, int place) {
        due("pass(" + minutes + ") " + what, x.pass(minutes), turns);
        due("of(0, 2) " + what, x.of(0, 2), place);
    }

    private static void registers(String what, EnergyDiscs x, int day, int night) {
        due("of(0, 4) " + what, x.of(0, 4), day);
        due("of(0, 5) " + what, x.of(0, 5), night);
    }

    private static void dayAndNight() {
        Check.sentence("The time is 0 at first; the minute of the day is the time left over by 1440; "
            + "it is night from 1320 on, and below 360.");
        int[] nights = {0, 359, 1320, 1439, 1440, 1440 + 359, 1440 + 1320, 2879, 2880, 99360, 99360 + 359};
        int[] days = {360, 1319, 1440 + 360, 1440 + 1319, 99360 + 360, LATEST - 1};
        for (int time : nights) {
            oneMinute(time, 1);
        }
        for (int time : days) {
            oneMinute(time, 0);
        }
        due("count(1) at the latest time", Houses.old().count(1), 0);
    }

    private static void oneMinute(int time, int night) {
        EnergyDiscs x = Houses.turningFrom(time);
        String at = "at the time " + time;
        due("count(1) " + at, x.count(1), night);
        due("wouldTurn(0, 1, 1) " + at, x.wouldTurn(0, 1, 1), night);
        due("wouldTurn(0, 1, 0) " + at, x.wouldTurn(0, 1, 0), 1 - night);
        due("pass(1) " + at, x.pass(1), 1);
        registers(at, x, 1 - night, night);
        due("count(0)", x.count(0), time + 1);
    }

    private static void dayAndNightInOnePass() {
        Check.sentence("Each 6000 of its place are a turn: it is put to the register of the day, or of the night");
        int[][] runs = {{0, 359, 0, 359}, {0, 360, 0, 360}, {0, 361, 1, 360}, {0, 1320, 960, 360}, {0, 1321, 960, 361}, {0, 1440, 960, 480},
            {359, 1, 0, 1}, {359, 2, 1, 1}, {360, 960, 960, 0}, {360, 961, 960, 1}, {1319, 2, 1, 1}, {1320, 480, 0, 480},
            {1320, 481, 1, 480}, {1439, 361, 0, 361}, {1439, 362, 1, 361}, {1440, 1440, 960, 480}, {700, 1440, 960, 480}};
        for (int[] run : runs) {
            EnergyDiscs x = Houses.turningFrom(run[0]);
            String what = "in " + run[1] + " minutes from " + run[0];
            due("wouldTurn(.., 0) " + what, x.wouldTurn(0, run[1], 0), run[2]);
            due("wouldTurn(.., 1) " + what, x.wouldTurn(0, run[1], 1), run[3]);
            due("pass() " + what, x.pass(run[1]), run[2] + run[3]);
            registers(what, x, run[2], run[3]);
        }
    }

    private static void energy() {
        Check.sentence("Its power is added to the energy that flowed.");
        EnergyDiscs x = Houses.withPower(99);
        x.set(EnergyDiscs.START, 99);
        x.pass(60);
        due("of(0, 6) at 5940", x.of(0, 6), 0);
        due("misses(0) at 5940", x.misses(0), 10000005940L);
        x.pass(1);
        due("of(0, 6) at 6039", x.of(0, 6), 1);
        due("misses(0) at 6039", x.misses(0), 10000006039L);
        x.turn(0);
        x.pass(1440);
        due("misses(0) without power", x.misses(0), 10000006039L);
        EnergyDiscs y = Houses.withPower(1);
        y.pass(1);
        due("misses(0) with the least power", y.misses(0), 10000000001L);
        due("of(0, 6) at 5999", energyOf(5999), 0);
        due("of(0, 6) at 6000", energyOf(6000), 1);
        due("of(0, 6) at 11999", energyOf(11999), 1);
        due("of(0, 6) at 48000", energyOf(48000), 8);
    }

    private static int energyOf(int power) {
        EnergyDiscs x = Houses.withPower(power);
        x.tamper(0);
        x.pass(1);
        return x.of(0, 6);
    }

    private static void aboveStart() {
        Check.sentence("If its power is above START, its disc goes on by power * speed / 100");
        for (int start : new int[] {0, 1, 15, 98, 99}) {
            for (int hole = 0; hole <= 1; hole++) {
                EnergyDiscs x = Houses.withPower(start + 1);
                x.set(EnergyDiscs.START, start);
                x.set(EnergyDiscs.HOLE, hole);
                passes("with a power 1 above START " + start, x, 10, 0, 10 * (start + 1));
            }
        }
    }

    private static void atStart() {
        Check.sentence("START (0 to 99; 15): power at and below which a disc stands");
        int[][] cases = {{1, 1}, {1, 15}, {14, 15}, {15, 15}, {1, 99}, {98, 99}, {99, 99}};
        for (int[] one : cases) {
            EnergyDiscs x = Houses.withPower(one[0]);
            x.set(EnergyDiscs.START, one[1]);
            x.set(EnergyDiscs.HOLE, 0);
            x.set(EnergyDiscs.CREEP, 9);
            String what = "with the power " + one[0] + " and START " + one[1];
            passes(what, x, 100, 0, 0);
            due("turnsIn(0) " + what, x.turnsIn(0), NONE);
            x.tamper(0);
            passes(what + ", tampered with", x, 100, 0, 0);
        }
    }

    private static void weakMagnets() {
        Check.sentence("power * speed / 100");
        int[][] cases = {{1, 1}, {2, 3}, {3, 4}, {5, 8}, {100, 160}, {101, 161}, {3749, 5998}};
        for (int[] one : cases) {
            EnergyDiscs x = Houses.withTheGreatestSpeed();
            x.set(EnergyDiscs.START, 0);
            Houses.addPower(x, 0, one[0]);
            passes("with the power " + one[0] + " and the speed 160", x, 1, 0, one[1]);
        }
        int[][] little = {{99, 99}, {100, 101}, {199, 200}, {200, 202}};
        for (int[] one : little) {
            EnergyDiscs x = Check.house(0);
            x.pass(1000);
            Houses.addPower(x, 0, one[0]);
            passes("with the power " + one[0] + " and the speed 101", x, 1, 0, one[1]);
        }
    }

    private static void halfWhenTamperedWith() {
        Check.sentence("or half of that, if it is tampered with");
        int[][] cases = {{1, 0}, {2, 1}, {3, 1}, {4, 2}, {5999, 2999}, {11999, 5999}};
        for (int[] one : cases) {
            EnergyDiscs x = Houses.withPower(one[0]);
            x.set(EnergyDiscs.START, 0);
            x.tamper(0);
            passes("with half of " + one[0], x, 1, 0, one[1]);
        }
        EnergyDiscs x = Houses.withPower(12000);
        x.tamper(0);
        passes("with half of 12000", x, 1, 1, 0);
        EnergyDiscs y = Houses.withTheGreatestSpeed();
        y.tamper(0);
        Houses.addPower(y, 0, 17);
        passes("with half of 27, as 17 goes 27.2 with the speed 160", y, 1, 0, 13);
    }

    private static void noCreepingWhenTamperedWith() {
        Check.sentence("Otherwise, if its power is 0 and it is not tampered with, it creeps: by CREEP");
        for (int hole = 0; hole <= 1; hole++) {
            EnergyDiscs x = Houses.standingAt(5);
            x.set(EnergyDiscs.HOLE, hole);
            x.tamper(0);
            passes("of a disc that is tampered with", x, 1440, 0, 5);
            x.visit(0);
            passes("after a visit", x, 1, 0, 7);
        }
        EnergyDiscs x = Houses.standingAt(5);
        int load = x.load(0, 1);
        passes("behind which a load is off", x, 1, 0, 7);
        x.turn(load);
        passes("behind which 1 W is on", x, 1, 0, 7);
    }

    private static void creepsAsFastWithWeakMagnets() {
        Check.sentence("it creeps: by CREEP");
        EnergyDiscs x = Houses.withTheGreatestSpeed();
        x.set(EnergyDiscs.HOLE, 0);
        passes("with the speed 160", x, 1, 0, 2);
        x.set(EnergyDiscs.CREEP, 9);
        passes("with the speed 160", x, 10, 0, 92);
    }

    private static void creeping() {
        Check.sentence("but with HOLE being 1 it does not creep from the place 0, and does not go beyond the next turn by creeping "
            + "(that turn is made, and it stops at 0 then).");
        // Each is a place, CREEP, HOLE and minutes, and then the turns and the place that are due.
        int[][] cases = {{0, 9, 1, 1, 0, 0}, {0, 9, 1, 1440, 0, 0}, {0, 9, 0, 1, 0, 9}, {1, 9, 1, 1, 0, 10}, {1, 1, 1, 1, 0, 2},
            {5990, 9, 1, 1, 0, 5999}, {5991, 9, 1, 1, 1, 0}, {5992, 9, 1, 1, 1, 0}, {5999, 9, 1, 1, 1, 0}, {5999, 1, 1, 1, 1, 0},
            {5998, 1, 1, 1, 0, 5999}, {5998, 2, 1, 1, 1, 0}, {5990, 9, 0, 1, 0, 5999}, {5991, 9, 0, 1, 1, 0}, {5992, 9, 0, 1, 1, 1},
            {5999, 9, 0, 1, 1, 8}, {5991, 9, 1, 2, 1, 0}, {5991, 9, 0, 2, 1, 9}, {5982, 9, 1, 1, 0, 5991}, {5982, 9, 1, 2, 1, 0},
            {5982, 9, 1, 3, 1, 0}, {5981, 9, 1, 2, 0, 5999}, {5981, 9, 1, 3, 1, 0}, {5999, 9, 1, 1440, 1, 0}, {5999, 9, 0, 1440, 3, 959},
            {0, 0, 0, 1440, 0, 0}, {0, 0, 1, 1440, 0, 0}, {1, 0, 1, 1440, 0, 1}, {5999, 0, 0, 1440, 0, 5999}, {5999, 0, 1, 1440, 0, 5999}};
        for (int[] one : cases) {
            EnergyDiscs x = Houses.standingAt(one[0]);
            x.set(EnergyDiscs.CREEP, one[1]);
            x.set(EnergyDiscs.HOLE, one[2]);
            String what = "from the place " + one[0] + " with CREEP " + one[1] + " and HOLE " + one[2];
            due("wouldTurn() in both registers " + what, x.wouldTurn(0, one[3], 0) + x.wouldTurn(0, one[3], 1), one[4]);
            passes(what, x, one[3], one[4], one[5]);
            due("count(6) " + what, x.count(6), one[4]);
        }
    }

    private static void creepingIsNoEnergy() {
        Check.sentence("what flowed in truth, less 6000 for each of its turns, less the place of its disc.");
        EnergyDiscs x = Check.house(0);
        x.set(EnergyDiscs.HOLE, 0);
        x.pass(1);
        due("misses(0) of a disc that has crept", x.misses(0), 9999999998L);
    }

    private static void registerOfACreepingTurn() {
        Check.sentence("(that turn is made, and it stops at 0 then)");
        int[] times = {359, 360, 1319, 1320};
        int[] nights = {1, 0, 0, 1};
        for (int i = 0; i < times.length; i++) {
            EnergyDiscs x = Houses.standingAt(5999);
            x.set(EnergyDiscs.CREEP, 0);
            Houses.passTo(x, times[i]);
            x.set(EnergyDiscs.CREEP, 9);
            passes("creeping at the time " + times[i], x, 10, 1, 0);
            registers("creeping at the time " + times[i], x, 1 - nights[i], nights[i]);
        }
    }

    private static void drivenOverTheHole() {
        Check.sentence("HOLE (0 or 1; 1): whether discs have a hole");
        EnergyDiscs x = Houses.standingAt(5999);
        Houses.addPower(x, 0, 100);
        passes("driven by a power over the hole", x, 1, 1, 99);
        x = Check.house(0);
        Houses.addPower(x, 0, 16);
        passes("driven by a power from the hole", x, 1, 0, 16);
    }

    private static void turns() {
        Check.sentence("Each 6000 of its place are a turn");
        int[][] cases = {{5999, 0, 5999}, {6000, 1, 0}, {6001, 1, 1}, {11999, 1, 5999}, {12000, 2, 0}, {12001, 2, 1}, {47999, 7, 5999}, {48000, 8, 0}};
        for (int[] one : cases) {
            EnergyDiscs x = Houses.withPower(one[0]);
            passes("with the power " + one[0], x, 1, one[1], one[2]);
            due("of(0, 5)", x.of(0, 5), one[1]);
        }
        EnergyDiscs x = Houses.standingAt(5999);
        x.set(EnergyDiscs.START, 0);
        Houses.addPower(x, 0, 1);
        passes("from 5999 with 1 W", x, 1, 1, 0);
        x = Houses.standingAt(5998);
        x.set(EnergyDiscs.START, 0);
        Houses.addPower(x, 0, 1);
        passes("from 5998 with 1 W", x, 1, 0, 5999);
        x = Houses.withTheGreatestSpeed();
        Houses.addPower(x, 0, 48000);
        due("of(0, 1)", x.of(0, 1), 48000);
        passes("with the greatest power and the greatest speed", x, 1, 12, 4800);
        passes("with the greatest power and the greatest speed", x, 1439, (4800 + 1439 * 76800) / 6000, 0);
    }

    private static void aging() {
        Check.sentence("Its magnets are a minute older; if they are AGE minutes old, or older, their age is 0 again, and the speed is 1 more");
        for (int age : new int[] {100, 101, 1000, 4999, 5000}) {
            EnergyDiscs x = Check.house(0);
            x.set(EnergyDiscs.AGE, age);
            due("of(0, 10)", x.of(0, 10), age);
            Houses.passTo(x, age - 1);
            due("of(0, 3) a minute before AGE " + age, x.of(0, 3), 100);
            due("of(0, 10) a minute before AGE " + age, x.of(0, 10), 1);
            x.pass(1);
            due("of(0, 3) at AGE " + age, x.of(0, 3), 101);
            due("of(0, 10) at AGE " + age, x.of(0, 10), age);
            x.pass(1);
            due("of(0, 3) a minute after AGE " + age, x.of(0, 3), 101);
            due("of(0, 10) a minute after AGE " + age, x.of(0, 10), age - 1);
        }
        EnergyDiscs x = Check.house(0);
        x.set(EnergyDiscs.AGE, 100);
        x.pass(1440);
        due("of(0, 3) after 14 times AGE in one pass()", x.of(0, 3), 114);
        due("of(0, 10)", x.of(0, 10), 60);
    }

    private static void olderThanAge() {
        Check.sentence("if they are AGE minutes old, or older");
        int[][] cases = {{98, 2}, {99, 1}, {100, 1}, {101, 1}, {999, 1}};
        for (int[] one : cases) {
            EnergyDiscs x = Check.house(0);
            x.pass(one[0]);
            x.set(EnergyDiscs.AGE, 100);
            String what = "with magnets " + one[0] + " minutes old, and AGE being 100 then";
            due("of(0, 10) " + what, x.of(0, 10), one[1]);
            x.pass(one[1]);
            due("of(0, 3) " + what, x.of(0, 3), 101);
            due("of(0, 10) " + what, x.of(0, 10), 100);
            x.pass(100);
            due("of(0, 3) " + what, x.of(0, 3), 102);
        }
        EnergyDiscs x = Check.house(0);
        x.set(EnergyDiscs.AGE, 100);
        x.pass(99);
        x.set(EnergyDiscs.AGE, 5000);
        due("of(0, 10) with a greater AGE then", x.of(0, 10), 4901);
        x.pass(1);
        due("of(0, 3)", x.of(0, 3), 100);
    }

    private static void greatestSpeed() {
        Check.sentence("the speed is 1 more, but 160 at most.");
        EnergyDiscs x = Check.house(0);
        x.set(EnergyDiscs.AGE, 100);
        Houses.passTo(x, 5899);
        due("of(0, 3)", x.of(0, 3), 158);
        x.pass(1);
        due("of(0, 3)", x.of(0, 3), 159);
        due("of(0, 10)", x.of(0, 10), 100);
        x.pass(99);
        due("of(0, 3)", x.of(0, 3), 159);
        due("of(0, 10)", x.of(0, 10), 1);
        x.pass(1);
        due("of(0, 3)", x.of(0, 3), 160);
        due("of(0, 10)", x.of(0, 10), NONE);
        for (int minutes : new int[] {99, 1, 1, 1440}) {
            x.pass(minutes);
            due("of(0, 3)", x.of(0, 3), 160);
            due("of(0, 10)", x.of(0, 10), NONE);
        }
        x.visit(0);
        due("of(0, 3) after a visit", x.of(0, 3), 100);
        due("of(0, 10) after a visit", x.of(0, 10), 100);
    }

    private static void weakerFromTheNextMinute() {
        Check.sentence("In a minute, for each meter, by numbers:");
        EnergyDiscs x = Houses.withPower(100);
        x.set(EnergyDiscs.AGE, 100);
        passes("in the last minute with the speed 100", x, 100, 1, 4000);
        passes("in the first minute with the speed 101", x, 1, 0, 4101);
        EnergyDiscs y = Houses.withPower(100);
        y.set(EnergyDiscs.AGE, 100);
        passes("with both speeds in one pass()", y, 101, 1, 4101);
    }

    private static void passMinutes() {
        Check.sentence("BAD_VALUE if minutes is out of range");
        EnergyDiscs x = Houses.withPower(6000);
        for (int minutes : new int[] {0, -1, 1441, EXTREMES[0], EXTREMES[1]}) {
            due("pass(" + minutes + ")", x.pass(minutes), BAD_VALUE);
            due("count(0)", x.count(0), 0);
        }
        due("pass(1)", x.pass(1), 1);
        due("count(0)", x.count(0), 1);
        due("pass(1440)", x.pass(1440), 1440 + 4);
        due("count(0)", x.count(0), 1441);
    }

    private static void passUpToTheEndOfTime() {
        Check.sentence("NOT_POSSIBLE if the time would be above 99999.");
        EnergyDiscs x = Houses.empty();
        Houses.passTo(x, LATEST - 1440);
        due("pass(1440) to 99999", x.pass(1440), 0);
        due("count(0)", x.count(0), LATEST);
        for (int minutes : new int[] {1, 2, 1439, 1440}) {
            due("pass(" + minutes + ") at 99999", x.pass(minutes), NOT_POSSIBLE);
        }
        for (int minutes : new int[] {0, -1, 1441, EXTREMES[0], EXTREMES[1]}) {
            due("pass(" + minutes + ") at 99999", x.pass(minutes), BAD_VALUE);
        }
        due("count(0)", x.count(0), LATEST);
        x = Houses.empty();
        Houses.passTo(x, LATEST - 1439);
        due("pass(1440) to 100000", x.pass(1440), NOT_POSSIBLE);
        due("pass(1439) to 99999", x.pass(1439), 0);
        x.undo();
        due("pass(1438) to 99998", x.pass(1438), 0);
        due("pass(2) to 100000", x.pass(2), NOT_POSSIBLE);
        due("pass(1) to 99999", x.pass(1), 0);
        due("pass(1) to 100000", x.pass(1), NOT_POSSIBLE);
    }

    private static void passOfAllDiscs() {
        Check.sentence("Returns how many turns all discs make in them");
        EnergyDiscs x = Houses.chain();
        due("pass(1440) without loads", x.pass(1440), 0);
        x.visit(0);
        Houses.addPower(x, 6, 6000);
        due("pass(1): each of 7 discs makes one", x.pass(1), 7);
        x.tamper(6);
        due("pass(1): one makes half of one", x.pass(1), 6);
        due("pass(1): and the other half", x.pass(1), 7);
        EnergyDiscs y = Check.house(0, 0);
        Houses.addPower(y, 0, 6000);
        due("pass(2): a disc behind which there is no load", y.pass(2), 2);
        due("count(6)", y.count(6), 2);
    }

    private static void manyMinutesAreMinutes() {
        Check.sentence("Minutes pass.");
        EnergyDiscs x = Houses.full();
        EnergyDiscs y = Houses.full();
        int turns = 0;
        for (int i = 0; i < 250; i++) {
            turns += x.pass(1);
        }
        due("pass(250)", y.pass(250), turns);
        Check.same("250 minutes at once are as one by one", Check.told(y), Check.told(x));
    }

    private static void turnsIn() {
        Check.sentence("Returns how many (1: in the next one); NO_SUCH if there is no such meter; NONE if not within 3000.");
        // Each is a place, CREEP and HOLE, and then the minutes that are due.
        int[][] cases = {{5999, 1, 1, 1}, {5998, 1, 1, 2}, {5998, 2, 1, 1}, {5991, 9, 0, 1}, {5990, 9, 0, 2}, {0, 9, 1, NONE},
            {0, 2, 0, 3000}, {0, 1, 0, NONE}, {1, 2, 1, 3000}, {2, 2, 1, 2999}, {3000, 1, 1, 3000}, {2999, 1, 1, NONE}, {3000, 1, 0, 3000},
            {2999, 1, 0, NONE}, {5999, 0, 0, NONE}, {5999, 0, 1, NONE}};
        for (int[] one : cases) {
            EnergyDiscs x = Houses.standingAt(one[0]);
            x.set(EnergyDiscs.CREEP, one[1]);
            x.set(EnergyDiscs.HOLE, one[2]);
            String what = "from the place " + one[0] + " with CREEP " + one[1] + " and HOLE " + one[2];
            due("turnsIn(0) " + what, x.turnsIn(0), one[3]);
            if (one[3] == 3000) {
                due("pass(1440) " + what, x.pass(1440), 0);
                due("pass(1440) " + what, x.pass(1440), 0);
                due("pass(119) " + what, x.pass(119), 0);
                due("turnsIn(0) then", x.turnsIn(0), 1);
                due("pass(1) " + what, x.pass(1), 1);
            }
        }
        EnergyDiscs x = Houses.standingAt(5999);
        x.tamper(0);
        due("turnsIn(0) of a disc that stands, tampered with", x.turnsIn(0), NONE);
        x = Houses.standingAt(5999);
        Houses.addPower(x, 0, 15);
        due("turnsIn(0) of a disc that stands with the power START", x.turnsIn(0), NONE);
        x = Houses.withPower(48000);
        due("turnsIn(0) of several turns a minute", x.turnsIn(0), 1);
    }

    private static void turnsInWithWeakMagnets() {
        Check.sentence("Tells in how many minutes the disc of a meter makes its next turn, if nothing else is done.");
        EnergyDiscs x = Houses.standingAt(99);
        x.set(EnergyDiscs.AGE, 100);
        Houses.addPower(x, 0, 100);
        passes("to 10 minutes before the magnets get weaker", x, 90, 1, 3099);
        // 2901 are left: 10 minutes by 100, and 19 by 101, but not 18.
        due("turnsIn(0)", x.turnsIn(0), 29);
        due("pass(28)", x.pass(28), 0);
        due("pass(1)", x.pass(1), 1);
    }

    private static void turnsInOfNone() {
        Check.sentence("NO_SUCH if there is no such meter; NONE if not within 3000.");
        due("turnsIn(0) in an empty house", Houses.empty().turnsIn(0), NO_SUCH);
        EnergyDiscs x = Houses.chain();
        for (int meter : new int[] {-1, 7, EXTREMES[0], EXTREMES[1]}) {
            due("turnsIn(" + meter + ")", x.turnsIn(meter), NO_SUCH);
        }
        due("turnsIn(6)", x.turnsIn(6), NONE);
    }

    private static void wouldTurn() {
        Check.sentence("Returns how many; NO_SUCH if there is no such meter; BAD_VALUE if minutes or night is out of range.");
        due("wouldTurn(0, 0, 2) in an empty house", Houses.empty().wouldTurn(0, 0, 2), NO_SUCH);
        EnergyDiscs x = Houses.turningFrom(0);
        for (int meter : new int[] {-1, 1, EXTREMES[0], EXTREMES[1]}) {
            due("wouldTurn(" + meter + ", 1, 1)", x.wouldTurn(meter, 1, 1), NO_SUCH);
            due("wouldTurn(" + meter + ", 0, 2)", x.wouldTurn(meter, 0, 2), NO_SUCH);
        }
        for (int minutes : new int[] {0, -1, 1441, EXTREMES[0], EXTREMES[1]}) {
            due("wouldTurn(0, " + minutes + ", 0)", x.wouldTurn(0, minutes, 0), BAD_VALUE);
            due("wouldTurn(0, " + minutes + ", 1)", x.wouldTurn(0, minutes, 1), BAD_VALUE);
        }
        for (int night : new int[] {-1, 2, EXTREMES[0], EXTREMES[1]}) {
            due("wouldTurn(0, 1, " + night + ")", x.wouldTurn(0, 1, night), BAD_VALUE);
            due("wouldTurn(0, 1440, " + night + ")", x.wouldTurn(0, 1440, night), BAD_VALUE);
        }
        due("wouldTurn(0, 1, 0)", x.wouldTurn(0, 1, 0), 0);
        due("wouldTurn(0, 1, 1)", x.wouldTurn(0, 1, 1), 1);
        due("wouldTurn(0, 1440, 0)", x.wouldTurn(0, 1440, 0), 960);
        due("wouldTurn(0, 1440, 1)", x.wouldTurn(0, 1440, 1), 480);
        x.pass(360);
        due("wouldTurn(0, 1440, 0) of those from now on", x.wouldTurn(0, 1440, 0), 960);
        due("wouldTurn(0, 1440, 1) of those from now on", x.wouldTurn(0, 1440, 1), 480);
        x.pass(1440);
        due("wouldTurn(0, 1, 0) of those from now on", x.wouldTurn(0, 1, 0), 1);
        due("wouldTurn(0, 961, 0) of those from now on", x.wouldTurn(0, 961, 0), 960);
        due("wouldTurn(0, 961, 1) of those from now on", x.wouldTurn(0, 961, 1), 1);
    }

    private static void beyondTheEndOfTime() {
        Check.sentence("what if; nothing changes (the bound of the time does not matter)");
        EnergyDiscs x = Houses.turningFrom(LATEST);
        due("turnsIn(0) at 99999", x.turnsIn(0), 1);
        due("wouldTurn(0, 1, 0) at 99999", x.wouldTurn(0, 1, 0), 1);
        due("wouldTurn(0, 1440, 0) at 99999", x.wouldTurn(0, 1440, 0), 960);
        due("wouldTurn(0, 1440, 1) at 99999", x.wouldTurn(0, 1440, 1), 480);
        due("pass(1) at 99999", x.pass(1), NOT_POSSIBLE);
        Houses.turnAll(x);
        x.set(EnergyDiscs.HOLE, 0);
        due("turnsIn(0) at 99999, creeping", x.turnsIn(0), 3000);
        due("count(0)", x.count(0), LATEST);
    }

    public static void main(String[] args) {
        dayAndNight();
        dayAndNightInOnePass();
        energy();
        aboveStart();
        atStart();
        weakMagnets();
        halfWhenTamperedWith();
        noCreepingWhenTamperedWith();
        creepsAsFastWithWeakMagnets();
        creeping();
        creepingIsNoEnergy();
        registerOfACreepingTurn();
        drivenOverTheHole();
        turns();
        aging();
        olderThanAge();
        greatestSpeed();
        weakerFromTheNextMinute();
        passMinutes();
        passUpToTheEndOfTime();
        passOfAllDiscs();
        manyMinutesAreMinutes();
        turnsIn();
        turnsInWithWeakMagnets();
        turnsInOfNone();
        wouldTurn();
        beyondTheEndOfTime();
        Check.end();
    }
}
