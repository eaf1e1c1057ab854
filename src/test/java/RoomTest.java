import java.lang.management.ManagementFactory;
import java.util.Random;

/** All calls of a run live in one room: what a new object takes is bounded, calls take nothing, and none throws. */
public final class RoomTest {
    private static final int[] ODD = {Integer.MIN_VALUE, -7, -6, -2, -1, 0, 1, 2, 6, 7, 11, 12, 16, 31, 32, 33, 80, 1440, 4000,
        Integer.MAX_VALUE - 1440, Integer.MAX_VALUE};
    private static final int KINDS = ModelTest.NAMES.length;
    private static final int BYTES_OF_AN_OBJECT = 20000;
    // The machine itself may take a little while it measures.
    private static final int BYTES_OF_THE_MACHINE = 4000;

    private static long taken() {
        return ((com.sun.management.ThreadMXBean) ManagementFactory.getThreadMXBean()).getCurrentThreadAllocatedBytes();
    }

    private static long characters(Random random) {
        return random.nextInt(4) == 0 ? random.nextLong() : Check.packed("mlstbv=;".substring(random.nextInt(8)));
    }

    /** Many calls, most of them with arguments that are odd. */
    private static long calls(EnergyDiscs x, Random random, int number) {
        long sum = 0;
        for (int i = 0; i < number; i++) {
            int a = random.nextInt(2) == 0 ? random.nextInt(7) : ODD[random.nextInt(ODD.length)];
            int b = random.nextInt(2) == 0 ? random.nextInt(7) : ODD[random.nextInt(ODD.length)];
            int c = random.nextInt(3) == 0 ? ODD[random.nextInt(ODD.length)] : random.nextInt(2);
            sum += ModelTest.answer(x, random.nextInt(KINDS), a, b, c, characters(random));
        }
        return sum;
    }

    /** Longer than the 512 calls of which answers are promised: behind them, too, no call may throw. */
    private static void noCallThrows() {
        for (int seed = 0; seed < 300; seed++) {
            EnergyDiscs x = new EnergyDiscs();
            calls(x, new Random(seed), 600);
        }
        for (int call = 0; call < KINDS; call++) {
            for (int a : ODD) {
                for (int b : ODD) {
                    EnergyDiscs x = new EnergyDiscs();
                    long answer = ModelTest.answer(x, call, a, b, b, b);
                    Check.holds(ModelTest.NAMES[call] + " answers no number below -6", answer >= -6);
                }
            }
        }
    }

    /** Every call of the face, so that each is measured. */
    private static long rounds(EnergyDiscs x, int number) {
        long sum = 0;
        for (int i = 0; i < number; i++) {
            sum += x.pass(60) + x.turnsIn(1) + x.wouldTurn(1, 1440, 1) + x.write(1) + x.fault() + x.wipe();
            sum += x.put(Check.PACKED_ORDERS) + x.carryOut() + x.undo() + x.save(0) + x.restore(0) + x.visit(1) + x.misses(0);
            sum += x.set(EnergyDiscs.DAY, i) + x.meter(0) + x.load(1, 9) + x.turn(0) + x.turn(0) + x.tamper(1) + x.sign(0);
            sum += x.of(1, i % 12) + x.ofLoad(0, 1) + x.fed(0) + x.count(i) + x.bill(1) + x.worst() + x.lags(0);
        }
        return sum;
    }

    private static void callsTakeNoRoom() {
        // What the machine itself makes at the first calls is not to be measured.
        for (int seed = 0; seed < 10; seed++) {
            calls(new EnergyDiscs(), new Random(seed), 500);
        }
        long before = taken();
        EnergyDiscs x = new EnergyDiscs();
        long made = taken();
        Check.holds("a new object takes little room: " + (made - before), made - before < BYTES_OF_AN_OBJECT);
        // Several objects, each within its 512 calls: so that one array or object for a call of a round shows.
        EnergyDiscs[] houses = new EnergyDiscs[20];
        for (int i = 0; i < houses.length; i++) {
            houses[i] = Check.house(0, 0);
            houses[i].turn(houses[i].load(1, 4000));
        }
        long start = taken();
        long sum = 0;
        for (EnergyDiscs house : houses) {
            sum += rounds(house, 15);
        }
        long end = taken();
        Check.holds("calls take no room: " + (end - start), end - start < BYTES_OF_THE_MACHINE);
        Check.holds("they answered", sum != 0);
    }

    public static void main(String[] args) {
        noCallThrows();
        callsTakeNoRoom();
        Check.end();
    }
}
