/** Promises 9, 10 and 21 to 24: write, sign, put, wipe, fault, carryOut. */
public final class TextsTest {
    private static final int NO_SUCH = EnergyDiscs.NO_SUCH;
    private static final int BAD_VALUE = EnergyDiscs.BAD_VALUE;
    private static final int BAD_TEXT = EnergyDiscs.BAD_TEXT;
    private static final int TOO_MANY = EnergyDiscs.TOO_MANY;
    private static final int NOT_POSSIBLE = EnergyDiscs.NOT_POSSIBLE;
    private static final int NONE = EnergyDiscs.NONE;

    private static void due(String call, long got, long want) {
        Check.due(call, got, want);
    }

    private static void write() {
        EnergyDiscs x = Check.house(0, 0);
        x.put(Check.packed("old"));
        due("write(2)", x.write(2), NO_SUCH);
        due("write(-1)", x.write(-1), NO_SUCH);
        Check.padIs(x, "old");
        due("write(1)", x.write(1), 6);
        Check.padIs(x, "d0n0#2");
        due("count(16): no change", x.count(16), 2);
        x.load(1, 3000);
        x.turn(0);
        x.pass(379);
        x.tamper(1);
        due("write(1)", x.write(1), 9);
        Check.padIs(x, "d9n180#2!");
        x.pass(5);
        x.visit(1);
        due("write(1)", x.write(1), 9);
        Check.padIs(x, "d10n180#3");
        for (int i = 0; i < 100; i++) {
            x.tamper(0);
            x.visit(0);
        }
        due("write(0)", x.write(0), 11);
        Check.padIs(x, "d12n180#103");
    }

    private static void sign() {
        EnergyDiscs x = new EnergyDiscs();
        due("sign(0) of an empty pad", x.sign(0), NO_SUCH);
        x.put(Check.packed("!~a"));
        due("sign(0)", x.sign(0), 33);
        due("sign(1)", x.sign(1), 126);
        due("sign(2)", x.sign(2), 'a');
        due("sign(3)", x.sign(3), NO_SUCH);
        due("sign(-1)", x.sign(-1), NO_SUCH);
        due("sign(80)", x.sign(80), NO_SUCH);
        due("sign(MAX)", x.sign(Integer.MAX_VALUE), NO_SUCH);
        due("sign(MIN)", x.sign(Integer.MIN_VALUE), NO_SUCH);
        x.wipe();
        due("sign(0) after wipe()", x.sign(0), NO_SUCH);
    }

    private static void put() {
        EnergyDiscs x = new EnergyDiscs();
        due("put(0)", x.put(0), BAD_VALUE);
        due("put(-1)", x.put(-1), BAD_VALUE);
        due("put(MIN)", x.put(Long.MIN_VALUE), BAD_VALUE);
        due("put(32)", x.put(32), BAD_VALUE);
        due("put(127)", x.put(127), BAD_VALUE);
        due("put() of a low code in the middle", x.put(0x412041L), BAD_VALUE);
        due("put() of a high code first", x.put(0x8041414141414141L), BAD_VALUE);
        due("put() with no last character", x.put(0x4100L), BAD_VALUE);
        due("put() with a hole", x.put(0x410041L), BAD_VALUE);
        due("put() with a bit far above", x.put(0x0100000000000041L), BAD_VALUE);
        due("put() with the highest bit", x.put(0x8000000000000041L), BAD_VALUE);
        due("count(15)", x.count(15), 0);
        due("put(33)", x.put(33), 1);
        due("put(126)", x.put(126), 2);
        due("put() of 8", x.put(Check.packed("abcdefgh")), 10);
        Check.padIs(x, "!~abcdefgh");
        due("put() of 7", x.put(Check.packed("1234567")), 17);
        Check.padIs(x, "!~abcdefgh1234567");
        due("count(16): no change", x.count(16), 0);
    }

    private static void putTooMany() {
        EnergyDiscs x = new EnergyDiscs();
        for (int i = 1; i < 10; i++) {
            due("put() of 8", x.put(Check.packed("abcdefgh")), 8 * i);
        }
        x.put('x');
        due("put() of 8 behind 73", x.put(Check.packed("abcdefgh")), TOO_MANY);
        due("put(0) behind 73", x.put(0), BAD_VALUE);
        due("count(15)", x.count(15), 73);
        due("put() of 7 behind 73", x.put(Check.packed("ABCDEFG")), 80);
        due("sign(79)", x.sign(79), 'G');
        due("sign(80)", x.sign(80), NO_SUCH);
        due("put('x') behind 80", x.put('x'), TOO_MANY);
        due("put(32) behind 80", x.put(32), BAD_VALUE);
    }

    private static void wipe() {
        EnergyDiscs x = new EnergyDiscs();
        due("wipe() of an empty pad", x.wipe(), 0);
        x.put(Check.packed("abc"));
        due("wipe()", x.wipe(), 3);
        due("wipe() again", x.wipe(), 0);
        due("count(15)", x.count(15), 0);
        due("count(16): no change", x.count(16), 0);
    }

    private static void fault() {
        EnergyDiscs x = new EnergyDiscs();
        String[] good = {"m", "m0", "m9", "l0=0", "l9=9999", "s0", "s9", "s9999", "t0", "t10", "t1440", "b0", "v9",
            "m;m", "m1;m", "l0=12;s0;t5;b1;v0;m;m2;t1000"};
        for (String text : good) {
            Check.pad(x, text);
            due("fault() of " + text, x.fault(), NONE);
        }
        String[] bad = {"", "x", ";", "m;", "m;;", "M", "m00", "mm", "m1;x", "l", "l=", "lx", "l1", "l1:", "l11", "l1=", "l1=;",
            "l1=00", "l1=01", "l1=x", "l1=99990", "l1=10000", "s", "s;", "s01", "s00", "s12345", "s1x", "t", "t99999", "t-1",
            "b", "b12", "b;", "v", "vv", "v1,", "0", "=", "s1=1", "m=", "t5;l3"};
        int[] faults = {0, 0, 0, 2, 2, 0, 2, 1, 3, 1, 1, 1, 2, 2, 2, 3, 3,
            4, 4, 3, 7, 7, 1, 1, 2, 2, 5, 2, 1, 5, 1,
            1, 2, 1, 1, 1, 2, 0, 0, 2, 1, 5};
        for (int i = 0; i < bad.length; i++) {
            Check.pad(x, bad[i]);
            due("fault() of " + bad[i], x.fault(), faults[i]);
            due("carryOut() of " + bad[i], x.carryOut(), BAD_TEXT);
            Check.padIs(x, bad[i]);
        }
        due("count(16): no change", x.count(16), 0);
        StringBuilder full = new StringBuilder("m");
        for (int i = 0; i < 39; i++) {
            full.append(";m");
        }
        Check.pad(x, full.append(";").toString());
        due("fault() of a full pad", x.fault(), 80);
    }

    private static void carryOut() {
        EnergyDiscs x = new EnergyDiscs();
        Check.pad(x, "m;m0;m1;l2=600;s0;t1;b2;v1");
        due("carryOut()", x.carryOut(), 8);
        due("count(15)", x.count(15), 0);
        due("count(16): one change", x.count(16), 1);
        due("of(0, 0)", x.of(0, 0), NONE);
        due("of(1, 0)", x.of(1, 0), 0);
        due("of(2, 0)", x.of(2, 0), 1);
        due("ofLoad(0, 0)", x.ofLoad(0, 0), 2);
        due("ofLoad(0, 1)", x.ofLoad(0, 1), 600);
        due("of(0, 2)", x.of(0, 2), 600);
        due("of(2, 8)", x.of(2, 8), 1);
        due("of(1, 11)", x.of(1, 11), 1);
        Check.pad(x, "s0;m;t1440;t1440;v2");
        due("carryOut()", x.carryOut(), 5);
        due("ofLoad(0, 2)", x.ofLoad(0, 2), 0);
        due("of(3, 0): m alone is fed through 0", x.of(3, 0), 0);
        due("count(0)", x.count(0), 2881);
        due("of(2, 8)", x.of(2, 8), 0);
        due("carryOut() of an empty pad", x.carryOut(), BAD_TEXT);
    }

    private static void carryOutUpToAnError() {
        EnergyDiscs x = new EnergyDiscs();
        String[] texts = {"b0", "m7;m1;m;m", "l0=4001;m", "l0=0", "l3=5", "s0", "m;s10", "t0;m", "t1441", "t9999", "b0;b0;m", "v4",
            "l1=4000;s0;s1;s0"};
        int[] done = {0, 1, 0, 0, 0, 0, 1, 0, 0, 0, 1, 0, 2};
        for (int i = 0; i < texts.length; i++) {
            Check.pad(x, texts[i]);
            due("carryOut() of " + texts[i], x.carryOut(), done[i]);
            due("count(15)", x.count(15), 0);
            due("count(16)", x.count(16), Math.min(6, i + 1));
        }
        due("count(2)", x.count(2), 2);
        due("count(4)", x.count(4), 1);
        due("count(0)", x.count(0), 0);
    }

    private static void carryOutIsOneChange() {
        EnergyDiscs x = new EnergyDiscs();
        Check.pad(x, "m;m;l1=9;b1;s0;t7;b1;m");
        due("carryOut()", x.carryOut(), 6);
        x.put('k');
        due("undo()", x.undo(), 0);
        Check.same("all orders are undone", Check.told(x), Check.told(new EnergyDiscs()));
        Check.padIs(x, "k");
        due("undo()", x.undo(), NOT_POSSIBLE);
    }

    public static void main(String[] args) {
        write();
        sign();
        put();
        putTooMany();
        wipe();
        fault();
        carryOut();
        carryOutUpToAnError();
        carryOutIsOneChange();
        Check.end();
    }
}
