/** The boundary cases of the history and of the slots: promises 25 to 27. */
public final class EdgesOfUndoTest {
    private static final int BAD_VALUE = EnergyDiscs.BAD_VALUE;
    private static final int NOT_POSSIBLE = EnergyDiscs.NOT_POSSIBLE;
    private static final int[] NO_SLOTS = {-1, 2, Houses.EXTREMES[0], Houses.EXTREMES[1]};

    private static final String CHAIN = "m;m;m1;m2;m3;m4;m5;l6=1;l5=2222;s1";
    private static final String STAR = "m;m;m;m;m;m;m;l1=11;s0;l2=4000";

    private static void due(String call, long got, long want) {
        Check.due(call, got, want);
    }

    private static void undoOfNothing() {
        Check.sentence("Returns how many changes can be undone then; NOT_POSSIBLE if there is none.");
        EnergyDiscs x = Houses.empty();
        due("undo() of a new object", x.undo(), NOT_POSSIBLE);
        due("count(16)", x.count(16), 0);
        x.meter(0);
        due("count(16)", x.count(16), 1);
        due("undo()", x.undo(), 0);
        due("undo() again", x.undo(), NOT_POSSIBLE);
        due("undo() again", x.undo(), NOT_POSSIBLE);
        due("count(2)", x.count(2), 0);
    }

    private static void atMostSixStates() {
        Check.sentence("when one more is recorded, the oldest one is dropped.");
        for (int changes = 1; changes <= 20; changes++) {
            EnergyDiscs x = Houses.empty();
            for (int i = 1; i <= changes; i++) {
                x.pass(i);
                due("count(16) after " + i, x.count(16), Math.min(6, i));
            }
            int time = changes * (changes + 1) / 2;
            due("count(0)", x.count(0), time);
            int kept = Math.min(6, changes);
            for (int i = 0; i < kept; i++) {
                time -= changes - i;
                due("undo() after " + changes, x.undo(), kept - 1 - i);
                due("count(0) after undo()", x.count(0), time);
            }
            due("undo() beyond " + kept, x.undo(), NOT_POSSIBLE);
            due("count(0)", x.count(0), time);
        }
    }

    private static void changesAfterUndo() {
        Check.sentence("A history of at most 6 states is kept");
        EnergyDiscs x = Houses.empty();
        for (int i = 0; i < 8; i++) {
            x.set(EnergyDiscs.START, i);
        }
        for (int left = 5; left >= 3; left--) {
            due("undo()", x.undo(), left);
        }
        due("count(9)", x.count(9), 4);
        x.set(EnergyDiscs.START, 50);
        due("count(16)", x.count(16), 4);
        x.set(EnergyDiscs.START, 51);
        x.set(EnergyDiscs.START, 52);
        due("count(16)", x.count(16), 6);
        x.set(EnergyDiscs.START, 53);
        due("count(16)", x.count(16), 6);
        int[] before = {52, 51, 50, 4, 3, 2};
        for (int i = 0; i < 6; i++) {
            due("undo()", x.undo(), 5 - i);
            due("count(9)", x.count(9), before[i]);
        }
        due("undo()", x.undo(), NOT_POSSIBLE);
        x.set(EnergyDiscs.START, 60);
        due("count(16) after a change that follows", x.count(16), 1);
        due("undo()", x.undo(), 0);
        due("count(9)", x.count(9), 2);
    }

    private static void eachChangeRecordsOne() {
        Check.sentence("each method that is a change, and returns no error, records the state before it");
        EnergyDiscs x = Houses.empty();
        due("set(1, 3)", x.set(1, 3), 2);
        due("count(16)", x.count(16), 1);
        due("meter(0)", x.meter(0), 0);
        due("count(16)", x.count(16), 2);
        due("load(0, 1)", x.load(0, 1), 0);
        due("count(16)", x.count(16), 3);
        due("turn(0)", x.turn(0), 1);
        due("count(16)", x.count(16), 4);
        due("tamper(0)", x.tamper(0), 1);
        due("count(16)", x.count(16), 5);
        due("visit(0)", x.visit(0), 0);
        due("count(16)", x.count(16), 6);
        x.undo();
        due("pass(1)", x.pass(1), 0);
        due("count(16)", x.count(16), 6);
        x.undo();
        x.put('m');
        due("carryOut()", x.carryOut(), 1);
        due("count(16)", x.count(16), 6);
        x.undo();
        x.save(0);
        due("restore(0)", x.restore(0), 1);
        due("count(16)", x.count(16), 6);
        due("undo() of restore()", x.undo(), 5);
        due("undo() of tamper()", x.undo(), 4);
        due("count(5)", x.count(5), 0);
        due("undo() of turn()", x.undo(), 3);
        due("count(4)", x.count(4), 0);
        due("undo() of load()", x.undo(), 2);
        due("count(3)", x.count(3), 0);
        due("undo() of meter()", x.undo(), 1);
        due("count(2)", x.count(2), 0);
        due("undo() of set()", x.undo(), 0);
        due("count(10)", x.count(10), 2);
    }

    private static void nothingIsDifferent() {
        Check.sentence("(also if nothing is different then)");
        EnergyDiscs x = Houses.empty();
        x.set(EnergyDiscs.AGE, 1000);
        due("count(16) after set() of what was", x.count(16), 1);
        x.save(1);
        x.restore(1);
        due("count(16) after restore() of what was", x.count(16), 2);
        Check.pad(x, "s0");
        due("carryOut()", x.carryOut(), 0);
        due("count(16) after carryOut() of none", x.count(16), 3);
        Check.same("nothing is different", Check.told(x), Check.told(Houses.empty()));
        due("undo()", x.undo(), 2);
        due("undo()", x.undo(), 1);
        due("undo()", x.undo(), 0);
    }

    private static void othersRecordNothing() {
        Check.sentence("This is not a change.");
        EnergyDiscs x = Houses.full();
        x.undo();
        x.undo();
        due("count(16)", x.count(16), 4);
        for (int call = 7; call <= 21; call++) {
            for (int a = -1; a <= 1; a++) {
                ModelTest.answer(x, call, a, 1, 1, 'm');
                due("count(16) after " + ModelTest.NAMES[call], x.count(16), 4);
            }
        }
        x.save(0);
        x.save(1);
        due("count(16) after save()", x.count(16), 4);
    }

    private static void undoIsNoChange() {
        Check.sentence("Undoes the latest change: everything except the pad, the slots and the history is as it was before it.");
        EnergyDiscs x = Houses.full();
        String before = Check.told(x);
        x.meter(6);
        x.pass(1440);
        due("count(16)", x.count(16), 6);
        due("undo()", x.undo(), 5);
        Check.same("a pass() is undone", Check.told(x), before);
        due("undo(), which undoes what was before", x.undo(), 4);
        due("count(0)", x.count(0), 1333);
    }

    private static void undoLeavesThePad() {
        Check.sentence("everything except the pad, the slots and the history is as it was before it.");
        EnergyDiscs x = Houses.empty();
        Check.pad(x, "m;t5");
        x.carryOut();
        due("undo()", x.undo(), 0);
        due("count(15) after undo() of carryOut()", x.count(15), 0);
        x.meter(0);
        x.write(0);
        due("undo()", x.undo(), 0);
        Check.padIs(x, "d0n0#1");
        x.meter(0);
        x.wipe();
        x.undo();
        due("count(15) after wipe()", x.count(15), 0);
        Check.pad(x, Houses.FULL_TEXT);
        x.meter(0);
        x.undo();
        Check.padIs(x, Houses.FULL_TEXT);
    }

    private static void undoLeavesTheSlots() {
        Check.sentence("everything except the pad, the slots and the history is as it was before it.");
        EnergyDiscs x = Houses.empty();
        x.meter(0);
        x.save(0);
        x.undo();
        due("restore(1), which was never used", x.restore(1), NOT_POSSIBLE);
        due("restore(0) of what is undone", x.restore(0), 1);
        due("undo() of restore(0)", x.undo(), 0);
        due("count(2)", x.count(2), 0);
        due("restore(0) again", x.restore(0), 1);
        x.meter(0);
        x.undo();
        due("restore(0) after undo()", x.restore(0), 1);
    }

    private static void ordersRecordNothingByThemselves() {
        Check.sentence("An order of a text records nothing by itself.");
        EnergyDiscs x = Houses.empty();
        x.set(EnergyDiscs.START, 1);
        Check.pad(x, "m;m;m;m;m;m;m;l0=1;s0;t1;b0;v0");
        due("carryOut() of 12 orders", x.carryOut(), 12);
        due("count(16)", x.count(16), 2);
        due("undo()", x.undo(), 1);
        due("count(2)", x.count(2), 0);
        due("count(9)", x.count(9), 1);
        due("undo()", x.undo(), 0);
        due("count(9)", x.count(9), 15);
    }

    private static void undoInAFullHouse() {
        Check.sentence("everything except the pad, the slots and the history is as it was before it.");
        // Each is the number of a call in ModelTest.NAMES and its two arguments: all changes that a full house allows.
        int[][] changes = {{0, EnergyDiscs.NIGHT, 99}, {3, 11, 0}, {4, 0, 0}, {5, 5, 0}, {6, 1440, 0}, {22, 0, 0}, {25, 0, 0}};
        String before = Check.told(withOrders());
        for (int[] change : changes) {
            String name = ModelTest.NAMES[change[0]];
            EnergyDiscs x = withOrders();
            Check.holds(name + " is without an error", ModelTest.answer(x, change[0], change[1], change[2], 0, 0) >= 0);
            Check.holds(name + " makes a difference", !Check.told(x).equals(before));
            due("undo() of " + name, x.undo(), 5);
            Check.same("all is as it was before " + name, Check.told(x), before);
        }
    }

    private static EnergyDiscs withOrders() {
        EnergyDiscs x = Houses.full();
        Check.pad(x, "s11;t1440;b0;v5");
        return x;
    }

    private static void noSuchSlot() {
        Check.sentence("BAD_VALUE if there is no such slot");
        EnergyDiscs x = Houses.full();
        for (int slot : NO_SLOTS) {
            due("save(" + slot + ")", x.save(slot), BAD_VALUE);
            due("restore(" + slot + ")", x.restore(slot), BAD_VALUE);
        }
        due("restore(1), which was never used", x.restore(1), NOT_POSSIBLE);
        due("save(0)", x.save(0), 7);
        due("save(1)", x.save(1), 7);
        due("restore(0)", x.restore(0), 7);
        due("restore(1)", x.restore(1), 7);
        for (int slot : NO_SLOTS) {
            due("restore(" + slot + ") with both slots used", x.restore(slot), BAD_VALUE);
        }
    }

    private static void slotThatWasNeverUsed() {
        Check.sentence("NOT_POSSIBLE if nothing was saved in it.");
        for (int slot = 0; slot <= 1; slot++) {
            EnergyDiscs x = Check.house(0);
            due("restore(" + slot + ")", x.restore(slot), NOT_POSSIBLE);
            due("save(" + slot + ")", x.save(slot), 1);
            due("restore(" + (1 - slot) + ")", x.restore(1 - slot), NOT_POSSIBLE);
            due("restore(" + slot + ")", x.restore(slot), 1);
            due("count(16)", x.count(16), 2);
            x.save(2);
            due("restore(" + (1 - slot) + ")", x.restore(1 - slot), NOT_POSSIBLE);
        }
    }

    private static void saveOverwrites() {
        Check.sentence("Saves everything except the pad, the history and the slots in a slot, and overwrites what was saved there.");
        EnergyDiscs x = Houses.empty();
        due("save(0) of an empty house", x.save(0), 0);
        for (int meters = 1; meters <= 7; meters++) {
            x.meter(meters - 2);
            due("save(1)", x.save(1), meters);
        }
        due("restore(0)", x.restore(0), 0);
        Check.same("an empty house is restored", Check.told(x), Check.told(Houses.empty()));
        due("restore(1) of what was saved last", x.restore(1), 7);
        Check.same("a full house is restored", Check.told(x), Check.told(Houses.chain()));
        x.restore(0);
        due("save(1) of an empty house", x.save(1), 0);
        x.meter(0);
        due("restore(1)", x.restore(1), 0);
    }

    private static void saveLeavesThePadAndTheHistory() {
        Check.sentence("everything except the pad, the history and the slots");
        EnergyDiscs x = Houses.empty();
        Check.pad(x, "old");
        x.set(EnergyDiscs.START, 1);
        x.save(0);
        due("count(16) after save()", x.count(16), 1);
        Check.padIs(x, "old");
        x.set(EnergyDiscs.START, 2);
        x.meter(0);
        x.save(1);
        Check.pad(x, "new");
        due("restore(0)", x.restore(0), 0);
        Check.padIs(x, "new");
        due("count(16) after restore()", x.count(16), 4);
        due("restore(1), which a restore() leaves", x.restore(1), 1);
        due("undo() of restore(1)", x.undo(), 4);
        due("undo() of restore(0)", x.undo(), 3);
        due("count(2)", x.count(2), 1);
        due("count(9)", x.count(9), 2);
    }

    private static void slotKeepsWhatWasSaved() {
        Check.sentence("Restores what was saved last in a slot, which keeps it. This is a change.");
        EnergyDiscs x = Houses.full();
        x.undo();
        due("restore(0)", x.restore(0), 7);
        due("count(16)", x.count(16), 6);
        String saved = Check.told(x);
        x.pass(1000);
        x.visit(0);
        x.tamper(1);
        x.turn(0);
        x.set(EnergyDiscs.CREEP, 0);
        due("restore(0) again", x.restore(0), 7);
        due("count(16)", x.count(16), 6);
        Check.same("the slot keeps what was saved", Check.told(x), saved);
        x.pass(7);
        x.save(1);
        due("restore(0) once more", x.restore(0), 7);
        due("undo()", x.undo(), 5);
        due("count(0)", x.count(0), 1333 + 7);
    }

    private static EnergyDiscs carriedOut(EnergyDiscs x, String text) {
        Check.pad(x, text);
        due("carryOut() of " + text, x.carryOut(), 10);
        return x;
    }

    /** A house with a chain of meters in the slot 0, and a star of meters in the slot 1, which is there, too. */
    private static EnergyDiscs withChainAndStar() {
        EnergyDiscs x = Houses.empty();
        x.save(1);
        carriedOut(x, CHAIN);
        due("save(0) of a chain", x.save(0), 7);
        due("restore(1)", x.restore(1), 0);
        carriedOut(x, STAR);
        due("save(1) of a star", x.save(1), 7);
        return x;
    }

    private static void restoreAnotherHouse() {
        Check.sentence("Restores what was saved last in a slot, which keeps it.");
        String chain = Check.told(carriedOut(Houses.empty(), CHAIN));
        String star = Check.told(carriedOut(Houses.empty(), STAR));
        EnergyDiscs x = withChainAndStar();
        Check.same("a star came", Check.told(x), star);
        due("restore(0)", x.restore(0), 7);
        Check.same("the chain is restored", Check.told(x), chain);
        x = withChainAndStar();
        x.restore(0);
        due("restore(1)", x.restore(1), 7);
        Check.same("the star is restored", Check.told(x), star);
        due("undo()", x.undo(), 4);
        Check.same("the chain is there after undo()", Check.told(x), chain);
        x = withChainAndStar();
        x.restore(0);
        due("undo()", x.undo(), 3);
        Check.same("the star is there after undo()", Check.told(x), star);
    }

    private static void restoreWithSixStates() {
        Check.sentence("Restores what was saved last in a slot, which keeps it. This is a change.");
        EnergyDiscs x = Houses.empty();
        x.save(0);
        for (int i = 1; i <= 6; i++) {
            x.pass(1);
        }
        due("restore(0) with 6 states", x.restore(0), 0);
        due("count(16)", x.count(16), 6);
        due("count(0)", x.count(0), 0);
        for (int i = 0; i < 6; i++) {
            due("undo()", x.undo(), 5 - i);
            due("count(0)", x.count(0), 6 - i);
        }
        due("undo(): the oldest one was dropped", x.undo(), NOT_POSSIBLE);
    }

    public static void main(String[] args) {
        undoOfNothing();
        atMostSixStates();
        changesAfterUndo();
        eachChangeRecordsOne();
        nothingIsDifferent();
        othersRecordNothing();
        undoIsNoChange();
        undoLeavesThePad();
        undoLeavesTheSlots();
        ordersRecordNothingByThemselves();
        undoInAFullHouse();
        noSuchSlot();
        slotThatWasNeverUsed();
        saveOverwrites();
        saveLeavesThePadAndTheHistory();
        slotKeepsWhatWasSaved();
        restoreAnotherHouse();
        restoreWithSixStates();
        Check.end();
    }
}
