/** Houses that tests begin with: each is made by less than 250 calls, as an object may be used for 512 alone. */
final class Houses {
    static final int LATEST = 99999;
    static final int[] EXTREMES = {Integer.MIN_VALUE, Integer.MAX_VALUE};
    /** Orders of 80 characters, the longest text that the pad holds. */
    static final String FULL_TEXT = "m;".repeat(39) + "s0";

    private Houses() {
    }

    static EnergyDiscs empty() {
        return new EnergyDiscs();
    }

    /** 7 meters, each but the first one fed through the one before. */
    static EnergyDiscs chain() {
        return Check.house(0, 0, 1, 2, 3, 4, 5);
    }

    /** A meter with loads of the power behind it, which are on. */
    static EnergyDiscs withPower(int power) {
        EnergyDiscs x = Check.house(0);
        addPower(x, 0, power);
        return x;
    }

    /** Loads come behind a meter, and are turned on: so few that they have the power together. */
    static void addPower(EnergyDiscs x, int meter, int power) {
        for (int left = power; left > 0; left -= 4000) {
            x.turn(x.load(meter, Math.min(4000, left)));
        }
    }

    /** Turns all the loads that are off on, and those that are on off. */
    static void turnAll(EnergyDiscs x) {
        for (int load = 0; load < x.count(3); load++) {
            x.turn(load);
        }
    }

    static void passTo(EnergyDiscs x, int time) {
        while (x.count(0) < time) {
            x.pass(Math.min(1440, time - x.count(0)));
        }
        Check.due("count(0)", x.count(0), time);
    }

    /** A meter whose disc makes one turn a minute from the time on, at the speed 100 for 5000 minutes. */
    static EnergyDiscs turningFrom(int time) {
        EnergyDiscs x = withPower(6000);
        x.set(EnergyDiscs.AGE, 5000);
        turnAll(x);
        passTo(x, time);
        turnAll(x);
        x.visit(0);
        return x;
    }

    /** A meter whose disc stands at a place, with the speed 100, and a load of that power, which is off. */
    static EnergyDiscs standingAt(int place) {
        EnergyDiscs x = Check.house(0);
        int most = Math.min(place, 4000);
        int[] powers = {most, place - most};
        x.set(EnergyDiscs.START, 0);
        for (int power : powers) {
            if (power > 0) {
                x.turn(x.load(0, power));
            }
        }
        if (place > 0) {
            x.pass(1);
        }
        turnAll(x);
        x.set(EnergyDiscs.START, 15);
        x.visit(0);
        Check.due("of(0, 2)", x.of(0, 2), place);
        return x;
    }

    /** A meter with the speed 160. */
    static EnergyDiscs withTheGreatestSpeed() {
        EnergyDiscs x = Check.house(0);
        x.set(EnergyDiscs.AGE, 100);
        passTo(x, 6000);
        Check.due("of(0, 3)", x.of(0, 3), 160);
        return x;
    }

    /** Full of all there may be: meters, loads, a pad with a text that has a fault at its end, 6 states; slot 1 was never used. */
    static EnergyDiscs full() {
        EnergyDiscs x = Check.house(0, 0, 0, 1, 3, 4, 2);
        for (int i = 0; i < 12; i++) {
            x.load(i % 7, 4000 - 300 * i);
            x.turn(i);
        }
        x.set(EnergyDiscs.AGE, 100);
        x.set(EnergyDiscs.HOLE, 0);
        x.pass(1000);
        x.visit(2);
        x.tamper(5);
        x.pass(333);
        x.save(0);
        x.tamper(6);
        x.visit(1);
        x.turn(3);
        x.set(EnergyDiscs.DAY, 98);
        x.set(EnergyDiscs.CREEP, 9);
        x.pass(77);
        Check.pad(x, FULL_TEXT.substring(0, 79) + ";");
        Check.due("count(16)", x.count(16), 6);
        return x;
    }

    /** A house at the last minute that the time allows. */
    static EnergyDiscs old() {
        EnergyDiscs x = withPower(3000);
        passTo(x, LATEST);
        return x;
    }
}
