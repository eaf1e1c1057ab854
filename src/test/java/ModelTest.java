import java.util.Random;

/** Random runs of at most 512 calls, the same in each run of the test: each answer is compared with that of PlainHouse. */
public final class ModelTest {
    static final String[] NAMES = {"set", "meter", "load", "turn", "tamper", "visit", "pass", "write", "sign", "of", "ofLoad", "misses",
        "fed", "count", "bill", "turnsIn", "wouldTurn", "worst", "lags", "put", "wipe", "fault", "carryOut", "undo", "save", "restore"};
    private static final int[] WEIGHTS = {6, 8, 8, 10, 4, 4, 9, 2, 2, 8, 4, 4,
        3, 6, 4, 2, 2, 3, 3, 0, 1, 2, 0, 3, 2, 2};
    private static final int RUNS = 600;
    // Of what an object answers behind these the document promises nothing.
    private static final int MOST_CALLS = 512;
    private static final int CALLS_TO_ASK_ALL = 247;
    private static final int PUT = 19;
    private static final int CARRY_OUT = 22;
    private static final int OLD_HOUSE_EVERY = 5;
    private static final int LONG_RUN_EVERY = 3;

    private final Random random;
    private final EnergyDiscs real = new EnergyDiscs();
    private final PlainHouse plain = new PlainHouse();
    private final StringBuilder log = new StringBuilder();
    private boolean wrong = false;
    private int calls = 0;

    private ModelTest(int seed) {
        random = new Random(seed);
    }

    static long answer(EnergyDiscs x, int call, int a, int b, int c, long characters) {
        switch (call) {
            case 0: return x.set(a, b);
            case 1: return x.meter(a);
            case 2: return x.load(a, b);
            case 3: return x.turn(a);
            case 4: return x.tamper(a);
            case 5: return x.visit(a);
            case 6: return x.pass(a);
            case 7: return x.write(a);
            case 8: return x.sign(a);
            case 9: return x.of(a, b);
            case 10: return x.ofLoad(a, b);
            case 11: return x.misses(a);
            case 12: return x.fed(a);
            case 13: return x.count(a);
            case 14: return x.bill(a);
            case 15: return x.turnsIn(a);
            case 16: return x.wouldTurn(a, b, c);
            case 17: return x.worst();
            case 18: return x.lags(a);
            case 19: return x.put(characters);
            case 20: return x.wipe();
            case 21: return x.fault();
            case 22: return x.carryOut();
            case 23: return x.undo();
            case 24: return x.save(a);
            default: return x.restore(a);
        }
    }

    private void call(int call, int a, int b, int c, long characters) {
        if (wrong || calls == MOST_CALLS) {
            return;
        }
        calls++;
        log.append(NAMES[call]).append('(').append(a).append(", ").append(b).append(", ").append(c).append(", ")
            .append(characters).append(")\n");
        long want = plain.answer(call, a, b, c, characters);
        long got = answer(real, call, a, b, c, characters);
        if (got != want) {
            wrong = true;
            System.out.print(log);
        }
        Check.due("the last call of these", got, want);
    }

    private int upTo(int most) {
        return random.nextInt(most + 1);
    }

    /** Mostly a number that is there, sometimes one beside. */
    private int number(int most) {
        return upTo(40) == 0 ? -1 : upTo(most);
    }

    private int value(int setting) {
        switch (setting) {
            case EnergyDiscs.AGE: return upTo(3) == 0 ? 99 + upTo(4902) : 100 + upTo(200);
            case EnergyDiscs.HOLE: return upTo(1);
            case EnergyDiscs.CREEP: return upTo(10);
            default: return upTo(100);
        }
    }

    private int power() {
        switch (upTo(4)) {
            case 0: return upTo(30);
            case 1: return 3990 + upTo(12);
            default: return upTo(4000);
        }
    }

    private int minutes() {
        switch (upTo(4)) {
            case 0: return upTo(10);
            case 1: return 1430 + upTo(12);
            case 2: return upTo(1440);
            default: return upTo(120);
        }
    }

    private void randomCall() {
        int all = 0;
        for (int weight : WEIGHTS) {
            all += weight;
        }
        int left = upTo(all - 1);
        int call = 0;
        while (left >= WEIGHTS[call]) {
            left -= WEIGHTS[call];
            call++;
        }
        switch (call) {
            case 0:
                int setting = number(6);
                call(call, setting, value(setting), 0, 0);
                break;
            case 2: call(call, number(6), power(), 0, 0); break;
            case 3: call(call, number(11), 0, 0, 0); break;
            case 6: call(call, minutes(), 0, 0, 0); break;
            case 8: call(call, number(20), 0, 0, 0); break;
            case 9: call(call, number(6), number(12), 0, 0); break;
            case 10: call(call, number(11), number(3), 0, 0); break;
            case 13: call(call, number(17), 0, 0, 0); break;
            case 16: call(call, number(6), minutes(), number(1), 0); break;
            case 24: call(call, number(1), 0, 0, 0); break;
            case 25: call(call, number(1), 0, 0, 0); break;
            default: call(call, number(6), 0, 0, 0); break;
        }
    }

    private String order() {
        switch (upTo(6)) {
            case 0: return upTo(1) == 0 ? "m" : "m" + upTo(6);
            case 1: return "l" + upTo(6) + "=" + power();
            case 2: return "s" + upTo(11);
            case 3: return "t" + minutes();
            case 4: return "b" + upTo(6);
            case 5: return "v" + upTo(6);
            default: return upTo(3) == 0 ? "m" : "s" + upTo(9999);
        }
    }

    private String text() {
        StringBuilder text = new StringBuilder(order());
        for (int i = upTo(12); i > 0; i--) {
            text.append(';').append(order());
        }
        if (upTo(2) == 0) {
            int place = upTo(text.length() - 1);
            text.setCharAt(place, "mlstbv=;0123456789x!".charAt(upTo(19)));
        }
        if (upTo(9) == 0) {
            text.setLength(upTo(text.length() - 1));
        }
        return text.toString();
    }

    private void randomText() {
        if (upTo(5) > 0) {
            call(20, 0, 0, 0, 0);
        }
        String text = text();
        int step = 1 + upTo(7);
        for (int i = 0; i < text.length(); i += step) {
            call(PUT, 0, 0, 0, Check.packed(text.substring(i, Math.min(text.length(), i + step))));
        }
        if (upTo(5) == 0) {
            call(PUT, 0, 0, 0, random.nextLong() >>> 8 * upTo(7) & 0x7f7f7f7f7f7f7f7fL);
        }
        call(21, 0, 0, 0, 0);
        call(CARRY_OUT, 0, 0, 0, 0);
    }

    /** Asks for all that can be asked cheaply, so that a fault shows also where no random call asked for it. */
    private void askAll() {
        for (int what = 0; what <= 16; what++) {
            call(13, what, 0, 0, 0);
        }
        for (int meter = 0; meter < 7; meter++) {
            for (int what = 0; what <= 11; what++) {
                call(9, meter, what, 0, 0);
            }
            call(11, meter, 0, 0, 0);
            call(12, meter, 0, 0, 0);
            call(14, meter, 0, 0, 0);
            call(18, meter, 0, 0, 0);
        }
        for (int load = 0; load < 12; load++) {
            for (int what = 0; what <= 2; what++) {
                call(10, load, what, 0, 0);
            }
        }
        call(17, 0, 0, 0, 0);
        for (int place = 0; place <= 80; place++) {
            call(8, place, 0, 0, 0);
        }
    }

    /** Brings a house near to the end of the time, with weak magnets. */
    private void growOld() {
        call(1, 0, 0, 0, 0);
        call(2, 0, 4000, 0, 0);
        call(3, 0, 0, 0, 0);
        for (int i = 0; i < 65; i++) {
            call(6, 1440, 0, 0, 0);
        }
    }

    /** A run either is random to its last call, or ends early, at any length, so that all can be asked behind it. */
    private void run(boolean old, boolean longest) {
        if (old) {
            growOld();
        }
        int most = longest ? MOST_CALLS : upTo(MOST_CALLS - CALLS_TO_ASK_ALL);
        while (calls < most && !wrong) {
            if (upTo(24) == 0) {
                randomText();
            } else {
                randomCall();
            }
        }
        askAll();
    }

    public static void main(String[] args) {
        for (int seed = 0; seed < RUNS; seed++) {
            ModelTest test = new ModelTest(seed);
            test.run(seed % OLD_HOUSE_EVERY == 0, seed % LONG_RUN_EVERY == 0);
            if (test.wrong) {
                break;
            }
        }
        Check.end();
    }
}
