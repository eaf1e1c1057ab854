/** The boundary cases of seals, visits and bills: the document's "Visits", and promises 6, 7 and 16. */
public final class EdgesOfVisitsTest {
    private static final int NO_SUCH = EnergyDiscs.NO_SUCH;
    private static final int NOT_POSSIBLE = EnergyDiscs.NOT_POSSIBLE;
    private static final int[] OUTSIDE_OF_SEVEN = {-1, 7, Houses.EXTREMES[0], Houses.EXTREMES[1]};

    private static void due(String call, long got, long want) {
        Check.due(call, got, want);
    }

    private static void noSuchMeter() {
        Check.sentence("NO_SUCH if there is no such meter");
        EnergyDiscs none = Houses.empty();
        due("tamper(0) in an empty house", none.tamper(0), NO_SUCH);
        due("visit(0) in an empty house", none.visit(0), NO_SUCH);
        due("bill(0) in an empty house", none.bill(0), NO_SUCH);
        EnergyDiscs x = Houses.chain();
        for (int meter : OUTSIDE_OF_SEVEN) {
            due("tamper(" + meter + ")", x.tamper(meter), NO_SUCH);
            due("visit(" + meter + ")", x.visit(meter), NO_SUCH);
            due("bill(" + meter + ")", x.bill(meter), NO_SUCH);
        }
        for (int meter : new int[] {0, 6}) {
            due("tamper(" + meter + ")", x.tamper(meter), meter + 1);
            due("visit(" + meter + ")", x.visit(meter), 0);
            due("bill(" + meter + ")", x.bill(meter), 0);
        }
    }

    private static void tamper() {
        Check.sentence("Returns the number of the seal; NO_SUCH if there is no such meter; NOT_POSSIBLE if it is tampered with.");
        EnergyDiscs x = Houses.chain();
        for (int meter = 0; meter < 7; meter++) {
            due("count(5)", x.count(5), (1 << meter) - 1);
            due("of(" + meter + ", 8)", x.of(meter, 8), 0);
            due("tamper(" + meter + ")", x.tamper(meter), meter + 1);
            due("of(" + meter + ", 8)", x.of(meter, 8), 1);
            due("of(" + meter + ", 7) of the broken seal", x.of(meter, 7), meter + 1);
            due("tamper(" + meter + ") again", x.tamper(meter), NOT_POSSIBLE);
        }
        due("count(5) with all seals broken", x.count(5), 127);
        due("count(8)", x.count(8), 7);
        due("tamper(7) with all seals broken", x.tamper(7), NO_SUCH);
        x.undo();
        due("tamper(6) after undo()", x.tamper(6), 7);
        x.visit(6);
        due("tamper(6) after a visit", x.tamper(6), 8);
    }

    private static void bills() {
        Check.sentence("A visit at a meter bills the turns since the last visit: DAY for each one by day, NIGHT for each one by night");
        EnergyDiscs x = Houses.turningFrom(358);
        due("bill(0) without turns", x.bill(0), 0);
        due("visit(0) without turns", x.visit(0), 0);
        x.pass(2);
        due("visit(0) after two turns by night", x.visit(0), 10);
        due("visit(0) again", x.visit(0), 0);
        x.pass(1);
        due("visit(0) after a turn by day", x.visit(0), 9);
        Houses.passTo(x, 1318);
        x.visit(0);
        x.pass(5);
        due("bill(0) after 2 turns by day and 3 by night", x.bill(0), 33);
        due("visit(0)", x.visit(0), 33);
        due("bill(0) after the visit", x.bill(0), 0);
        due("of(0, 4): the registers stay", x.of(0, 4), 960);
        due("of(0, 5): the registers stay", x.of(0, 5), 5);
        due("of(0, 9)", x.of(0, 9), 10 + 9 + 957 * 9 + 33);
        due("count(7)", x.count(7), 10 + 9 + 957 * 9 + 33);
        due("of(0, 11)", x.of(0, 11), 7);
    }

    private static void tariffsAtTheirEdges() {
        Check.sentence("DAY, NIGHT (0 to 99; 9, 5): coins for a turn by day and by night.");
        int[][] cases = {{0, 0, 0}, {99, 0, 99}, {0, 99, 198}, {99, 99, 297}};
        for (int[] one : cases) {
            EnergyDiscs x = Houses.turningFrom(358);
            x.pass(3);
            x.set(EnergyDiscs.DAY, one[0]);
            x.set(EnergyDiscs.NIGHT, one[1]);
            String what = " of one turn by day and two by night with DAY " + one[0] + " and NIGHT " + one[1];
            due("bill(0)" + what, x.bill(0), one[2]);
            due("visit(0)" + what, x.visit(0), one[2]);
            x.set(EnergyDiscs.DAY, 99);
            due("bill(0) after a visit with free turns", x.bill(0), 0);
        }
    }

    private static void greatestBill() {
        Check.sentence("Returns the bill, in coins");
        EnergyDiscs x = Houses.withTheGreatestSpeed();
        Houses.addPower(x, 0, 48000);
        x.set(EnergyDiscs.DAY, 99);
        x.set(EnergyDiscs.NIGHT, 99);
        Houses.passTo(x, Houses.LATEST);
        int turns = (int) ((Houses.LATEST - 6000) * 76800L / 6000);
        due("count(6)", x.count(6), turns);
        due("bill(0)", x.bill(0), 99L * turns);
        due("visit(0)", x.visit(0), 99L * turns);
        due("count(7)", x.count(7), 99L * turns);
    }

    private static void newMagnets() {
        Check.sentence("it makes the speed 100 and the age of its magnets 0");
        EnergyDiscs x = Houses.withTheGreatestSpeed();
        x.visit(0);
        due("of(0, 3) after 160", x.of(0, 3), 100);
        due("of(0, 10)", x.of(0, 10), 100);
        x.pass(99);
        due("of(0, 10)", x.of(0, 10), 1);
        x.visit(0);
        due("of(0, 3) at the age 99", x.of(0, 3), 100);
        due("of(0, 10)", x.of(0, 10), 100);
        x.pass(99);
        due("of(0, 3) 99 minutes after a visit", x.of(0, 3), 100);
        x.pass(1);
        due("of(0, 3) 100 minutes after a visit", x.of(0, 3), 101);
        x.visit(0);
        due("of(0, 3) after 101", x.of(0, 3), 100);
        due("of(0, 2): the place stays", x.of(0, 2), 0);
        EnergyDiscs y = Check.house(0, 0);
        y.pass(1000);
        y.visit(1);
        due("of(0, 3) of a meter that was not visited", y.of(0, 3), 101);
        due("of(1, 3) of one that was", y.of(1, 3), 100);
        y = Houses.standingAt(5999);
        due("visit(0) with the place 5999", y.visit(0), 0);
        due("of(0, 2) stays", y.of(0, 2), 5999);
    }

    private static void endOfTampering() {
        Check.sentence("ends tampering, and makes a broken seal whole");
        EnergyDiscs x = Houses.withPower(100);
        x.tamper(0);
        x.pass(1);
        due("of(0, 2) tampered with", x.of(0, 2), 50);
        x.visit(0);
        x.pass(1);
        due("of(0, 2) after a visit", x.of(0, 2), 150);
        due("of(0, 8)", x.of(0, 8), 0);
        due("count(5)", x.count(5), 0);
    }

    private static void sealNumbers() {
        Check.sentence("with a new number, which is 1 more than the greatest that any meter had "
            + "(meters get such numbers as they come, from 1 on).");
        EnergyDiscs x = Houses.empty();
        due("count(8) without meters", x.count(8), 0);
        for (int i = 0; i < 7; i++) {
            x.meter(0);
            due("of(" + i + ", 7)", x.of(i, 7), i + 1);
            due("count(8)", x.count(8), i + 1);
        }
        x.visit(0);
        due("of(0, 7) of a seal that was whole", x.of(0, 7), 1);
        due("count(8)", x.count(8), 7);
        x.tamper(0);
        x.visit(0);
        due("of(0, 7) of a seal that was broken", x.of(0, 7), 8);
        x.tamper(0);
        x.visit(0);
        due("of(0, 7) of the greatest seal, which was broken", x.of(0, 7), 9);
        x.tamper(3);
        due("count(8) with a broken seal", x.count(8), 9);
        x.visit(3);
        due("of(3, 7)", x.of(3, 7), 10);
        due("of(0, 7) stays", x.of(0, 7), 9);
        due("of(6, 7) stays", x.of(6, 7), 7);
        due("count(8)", x.count(8), 10);
    }

    private static void sealNumberOfALaterMeter() {
        Check.sentence("(meters get such numbers as they come, from 1 on)");
        EnergyDiscs x = Check.house(0);
        x.tamper(0);
        x.meter(0);
        due("of(1, 7) of a meter that comes while a seal is broken", x.of(1, 7), 2);
        x.visit(0);
        x.meter(0);
        due("of(2, 7) of a meter that comes after a visit", x.of(2, 7), 4);
        x.undo();
        due("count(8) after undo()", x.count(8), 3);
        x.undo();
        due("count(8) after undo() of the visit", x.count(8), 2);
        due("of(0, 8)", x.of(0, 8), 1);
        due("of(0, 7)", x.of(0, 7), 1);
        x.visit(0);
        due("of(0, 7)", x.of(0, 7), 3);
    }

    private static void bill() {
        Check.sentence("Returns what a visit at a meter would bill now.");
        EnergyDiscs x = Houses.full();
        for (int meter = 0; meter < 7; meter++) {
            int bill = x.bill(meter);
            due("visit(" + meter + ")", x.visit(meter), bill);
            due("bill(" + meter + ")", x.bill(meter), 0);
            x.undo();
            due("bill(" + meter + ") after undo()", x.bill(meter), bill);
        }
        Check.sentence("9 coins that were billed so far");
        int before = x.of(0, 9);
        int bill = x.visit(0);
        due("of(0, 9)", x.of(0, 9), before + bill);
        x.visit(0);
        due("of(0, 9) after a visit that bills nothing", x.of(0, 9), before + bill);
    }

    public static void main(String[] args) {
        noSuchMeter();
        tamper();
        bills();
        tariffsAtTheirEdges();
        greatestBill();
        newMagnets();
        endOfTampering();
        sealNumbers();
        sealNumberOfALaterMeter();
        bill();
        Check.end();
    }
}
