/** Promises 25 to 27: undo, save, restore. */
public final class UndoSaveTest {
    private static final int BAD_VALUE = EnergyDiscs.BAD_VALUE;
    private static final int NOT_POSSIBLE = EnergyDiscs.NOT_POSSIBLE;

    private static void due(String call, long got, long want) {
        Check.due(call, got, want);
    }

    private static final int KINDS_OF_CHANGES = 9;

    /** Calls one method that is a change; all of them together use all that a state holds. */
    private static int change(EnergyDiscs x, int kind) {
        switch (kind) {
            case 0: return x.set(EnergyDiscs.AGE, 100);
            case 1: return x.meter(0);
            case 2: return x.load(1, 3000);
            case 3: return x.turn(0);
            case 4: return x.tamper(1);
            case 5: return x.pass(777);
            case 6: return x.visit(1);
            case 7:
                Check.pad(x, "m0;l0=77;s1;t3;b0");
                return x.carryOut();
            default: return x.restore(1);
        }
    }

    private static EnergyDiscs used() {
        EnergyDiscs x = Check.house(0, 0);
        x.load(1, 1000);
        x.turn(0);
        x.pass(500);
        x.save(1);
        x.pass(77);
        x.visit(0);
        return x;
    }

    private static void eachChangeIsUndone() {
        for (int kind = 0; kind < KINDS_OF_CHANGES; kind++) {
            EnergyDiscs x = used();
            String before = Check.told(x);
            Check.holds("change " + kind + " is one", change(x, kind) >= 0);
            Check.holds("change " + kind + " makes a difference", !before.equals(Check.told(x)));
            due("undo() of change " + kind, x.undo(), 5);
            Check.same("change " + kind + " is undone", Check.told(x), before);
        }
    }

    private static void undoAll() {
        EnergyDiscs x = new EnergyDiscs();
        due("undo()", x.undo(), NOT_POSSIBLE);
        x.meter(0);
        due("count(16)", x.count(16), 1);
        for (int i = 0; i < 20; i++) {
            x.meter(0);
            x.pass(i + 1);
            x.undo();
            x.set(EnergyDiscs.START, i);
        }
        due("count(16) is 6 at most", x.count(16), 6);
        EnergyDiscs y = new EnergyDiscs();
        String[] before = new String[20];
        for (int i = 0; i < 20; i++) {
            before[i] = Check.told(y);
            due("set(START, i)", y.set(EnergyDiscs.START, i), i == 0 ? 15 : i - 1);
        }
        for (int i = 19; i >= 14; i--) {
            due("undo()", y.undo(), i - 14);
            Check.same("undo() to the state " + i, Check.told(y), before[i]);
        }
        due("undo() beyond 6", y.undo(), NOT_POSSIBLE);
        Check.same("the state stays", Check.told(y), before[14]);
        due("set(START, 50)", y.set(EnergyDiscs.START, 50), 13);
        due("count(16)", y.count(16), 1);
        due("undo()", y.undo(), 0);
        Check.same("undo() after that", Check.told(y), before[14]);
    }

    private static void errorsRecordNothing() {
        EnergyDiscs x = Check.house(0, 0, 0, 0, 0, 0, 0);
        due("count(16)", x.count(16), 6);
        String before = Check.told(x);
        x.set(6, 1);
        x.meter(0);
        x.load(9, 1);
        x.turn(0);
        x.tamper(7);
        x.visit(7);
        x.pass(0);
        x.restore(0);
        x.restore(2);
        x.put('?');
        x.carryOut();
        Check.same("errors change nothing", Check.told(x), before);
        due("count(16)", x.count(16), 6);
        for (int i = 5; i >= 0; i--) {
            due("undo()", x.undo(), i);
            due("count(2)", x.count(2), i + 1);
        }
    }

    private static void changesWithoutADifference() {
        EnergyDiscs x = new EnergyDiscs();
        x.set(EnergyDiscs.START, 15);
        due("count(16) after a set() of what was", x.count(16), 1);
        Check.pad(x, "t0");
        due("carryOut()", x.carryOut(), 0);
        due("count(16) after a carryOut() of nothing", x.count(16), 2);
        x.save(0);
        due("count(16) after save()", x.count(16), 2);
        x.restore(0);
        due("count(16) after restore()", x.count(16), 3);
        x.count(0);
        x.wipe();
        x.worst();
        due("count(16) after others", x.count(16), 3);
    }

    private static void undoLeavesPadAndSlots() {
        EnergyDiscs x = Check.house(0);
        x.put(Check.packed("abc"));
        x.save(0);
        x.meter(0);
        x.save(1);
        x.undo();
        Check.padIs(x, "abc");
        x.undo();
        due("count(2)", x.count(2), 0);
        due("restore(1) of what was saved before undo()", x.restore(1), 2);
        due("restore(0)", x.restore(0), 1);
        due("undo()", x.undo(), 1);
        due("count(2)", x.count(2), 2);
        due("undo()", x.undo(), 0);
        due("count(2)", x.count(2), 0);
    }

    private static void save() {
        EnergyDiscs x = new EnergyDiscs();
        due("save(-1)", x.save(-1), BAD_VALUE);
        due("save(2)", x.save(2), BAD_VALUE);
        due("save(MIN)", x.save(Integer.MIN_VALUE), BAD_VALUE);
        due("save(0) without meters", x.save(0), 0);
        x.meter(0);
        x.meter(0);
        due("save(0)", x.save(0), 2);
        due("restore(1)", x.restore(1), NOT_POSSIBLE);
        x.meter(0);
        due("restore(0) of what was saved last", x.restore(0), 2);
        due("save(1)", x.save(1), 2);
    }

    private static void restore() {
        EnergyDiscs x = new EnergyDiscs();
        due("restore(-1)", x.restore(-1), BAD_VALUE);
        due("restore(2)", x.restore(2), BAD_VALUE);
        due("restore(MAX)", x.restore(Integer.MAX_VALUE), BAD_VALUE);
        due("restore(0)", x.restore(0), NOT_POSSIBLE);
        x = used();
        String saved = Check.told(x);
        due("save(0)", x.save(0), 2);
        for (int kind = 0; kind < KINDS_OF_CHANGES - 1; kind++) {
            change(x, kind);
        }
        x.put(Check.packed("kept"));
        due("restore(0)", x.restore(0), 2);
        Check.same("all is as it was saved", Check.told(x), saved);
        Check.padIs(x, "kept");
        x.pass(100);
        x.tamper(0);
        x.load(0, 5);
        due("restore(0) again", x.restore(0), 2);
        Check.same("the slot keeps what was saved", Check.told(x), saved);
        due("restore(1)", x.restore(1), 2);
        due("count(0)", x.count(0), 500);
        due("count(16)", x.count(16), 6);
    }

    private static void restoreOfAnotherHouse() {
        EnergyDiscs x = Check.house(0, 0, 1, 2);
        x.load(3, 3000);
        x.load(1, 50);
        x.turn(0);
        String saved = Check.told(x);
        EnergyDiscs y = new EnergyDiscs();
        y.save(1);
        Check.pad(y, "m;m;m1;m2;l3=3000;l1=50;s0");
        y.carryOut();
        y.save(0);
        y.restore(1);
        Check.pad(y, "m;m;m;m;m;l2=7;l2=8;s1;t99;b3");
        due("carryOut()", y.carryOut(), 10);
        due("restore(0)", y.restore(0), 4);
        Check.same("all is as it was saved", Check.told(y), saved);
    }

    private static void restoreOfNothing() {
        EnergyDiscs x = new EnergyDiscs();
        x.save(1);
        x.meter(0);
        x.load(0, 4);
        x.pass(5);
        due("restore(1) to no meters", x.restore(1), 0);
        Check.same("all is as it was saved", Check.told(x), Check.told(new EnergyDiscs()));
        due("undo()", x.undo(), 3);
        due("count(0)", x.count(0), 5);
    }

    public static void main(String[] args) {
        eachChangeIsUndone();
        undoAll();
        errorsRecordNothing();
        changesWithoutADifference();
        undoLeavesPadAndSlots();
        save();
        restore();
        restoreOfAnotherHouse();
        restoreOfNothing();
        Check.end();
    }
}
