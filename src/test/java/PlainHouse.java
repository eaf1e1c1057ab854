import java.util.ArrayDeque;
import java.util.ArrayList;
import java.util.Deque;
import java.util.List;
import java.util.regex.Matcher;
import java.util.regex.Pattern;

/**
 * A second program for the same document, written apart from the first one and without regard for room or speed:
 * it goes minute by minute, copies whole states, and reads texts by a pattern.
 */
final class PlainHouse {
    private static final Pattern ORDERS = orders();
    private static final int[][] RANGES = {{0, 99}, {0, 9}, {0, 1}, {100, 5000}, {0, 99}, {0, 99}};

    private State now = new State();
    private String pad = "";
    private final Deque<State> history = new ArrayDeque<>();
    private final State[] slots = new State[2];

    private static Pattern orders() {
        String digit = "[0-9]";
        String number = "(?:0|[1-9][0-9]{0,3})";
        String order = "(?:m" + digit + "?|l" + digit + "=" + number + "|s" + number + "|t" + number + "|b" + digit + "|v" + digit + ")";
        return Pattern.compile(order + "(?:;" + order + ")*");
    }

    private static final class Disc {
        int through;
        int place;
        int speed = 100;
        int age;
        final long[] turns = new long[2];
        final long[] billedTurns = new long[2];
        long energy;
        int seal;
        boolean sealBroken;
        boolean tampered;
        long coins;
        int visits;

        Disc copy() {
            Disc other = new Disc();
            other.through = through;
            other.place = place;
            other.speed = speed;
            other.age = age;
            for (int i = 0; i < 2; i++) {
                other.turns[i] = turns[i];
                other.billedTurns[i] = billedTurns[i];
            }
            other.energy = energy;
            other.seal = seal;
            other.sealBroken = sealBroken;
            other.tampered = tampered;
            other.coins = coins;
            other.visits = visits;
            return other;
        }
    }

    private static final class State {
        int time;
        int greatestSeal;
        int[] settings = {15, 2, 1, 1000, 9, 5};
        List<Disc> discs = new ArrayList<>();
        /** Each is a meter, a power, and 1 for on. */
        List<int[]> loads = new ArrayList<>();

        State copy() {
            State other = new State();
            other.time = time;
            other.greatestSeal = greatestSeal;
            other.settings = settings.clone();
            for (Disc disc : discs) {
                other.discs.add(disc.copy());
            }
            for (int[] load : loads) {
                other.loads.add(load.clone());
            }
            return other;
        }

        boolean isBehind(int meter, int other) {
            return meter == other || meter > 0 && isBehind(discs.get(meter).through, other);
        }

        int power(int meter) {
            int power = 0;
            for (int[] load : loads) {
                power += load[2] == 1 && isBehind(load[0], meter) ? load[1] : 0;
            }
            return power;
        }

        boolean night() {
            int minute = time % 1440;
            return minute >= 1320 || minute < 360;
        }

        long minute() {
            long made = 0;
            for (int i = 0; i < discs.size(); i++) {
                Disc disc = discs.get(i);
                int power = power(i);
                disc.energy += power;
                if (power > settings[0]) {
                    int way = power * disc.speed / 100;
                    disc.place += disc.tampered ? way / 2 : way;
                } else if (power == 0 && !disc.tampered) {
                    if (settings[2] == 0) {
                        disc.place += settings[1];
                    } else if (disc.place != 0) {
                        disc.place = Math.min(6000, disc.place + settings[1]);
                    }
                }
                while (disc.place >= 6000) {
                    disc.turns[night() ? 1 : 0]++;
                    disc.place -= 6000;
                    made++;
                }
                disc.age++;
                if (disc.age >= settings[3]) {
                    disc.age = 0;
                    disc.speed = Math.min(160, disc.speed + 1);
                }
            }
            time++;
            return made;
        }
    }

    private boolean isMeter(int meter) {
        return meter >= 0 && meter < now.discs.size();
    }

    private boolean isLoad(int load) {
        return load >= 0 && load < now.loads.size();
    }

    private void record() {
        history.addLast(now.copy());
        if (history.size() > 6) {
            history.removeFirst();
        }
    }

    private static long turns(Disc disc) {
        return disc.turns[0] + disc.turns[1];
    }

    private long owed(Disc disc) {
        return (disc.turns[0] - disc.billedTurns[0]) * now.settings[4] + (disc.turns[1] - disc.billedTurns[1]) * now.settings[5];
    }

    /** Does one of the calls set 0, meter 1, load 2, turn 3, tamper 4, visit 5, pass 6; records it if told so. */
    private long change(boolean recorded, int call, int a, int b) {
        State before = now.copy();
        long answer;
        switch (call) {
            case 0: answer = set(a, b); break;
            case 1: answer = meter(a); break;
            case 2: answer = load(a, b); break;
            case 3: answer = turn(a); break;
            case 4: answer = tamper(a); break;
            case 5: answer = visit(a); break;
            default: answer = pass(a); break;
        }
        if (recorded && answer >= 0) {
            State after = now;
            now = before;
            record();
            now = after;
        }
        return answer;
    }

    private long set(int setting, int value) {
        if (setting < 0 || setting > 5 || value < RANGES[setting][0] || value > RANGES[setting][1]) {
            return -2;
        }
        int previous = now.settings[setting];
        now.settings[setting] = value;
        return previous;
    }

    private long meter(int through) {
        if (!now.discs.isEmpty() && !isMeter(through)) {
            return -1;
        }
        if (now.discs.size() == 7) {
            return -4;
        }
        Disc disc = new Disc();
        disc.through = now.discs.isEmpty() ? -6 : through;
        disc.seal = ++now.greatestSeal;
        now.discs.add(disc);
        return now.discs.size() - 1;
    }

    private long load(int meter, int power) {
        if (!isMeter(meter)) {
            return -1;
        }
        if (power < 1 || power > 4000) {
            return -2;
        }
        if (now.loads.size() == 12) {
            return -4;
        }
        now.loads.add(new int[] {meter, power, 0});
        return now.loads.size() - 1;
    }

    private long turn(int load) {
        if (!isLoad(load)) {
            return -1;
        }
        now.loads.get(load)[2] = 1 - now.loads.get(load)[2];
        return now.loads.get(load)[2];
    }

    private long tamper(int meter) {
        if (!isMeter(meter)) {
            return -1;
        }
        Disc disc = now.discs.get(meter);
        if (disc.tampered) {
            return -5;
        }
        disc.tampered = true;
        disc.sealBroken = true;
        return disc.seal;
    }

    private long visit(int meter) {
        if (!isMeter(meter)) {
            return -1;
        }
        Disc disc = now.discs.get(meter);
        long coins = owed(disc);
        disc.coins += coins;
        disc.visits++;
        disc.billedTurns[0] = disc.turns[0];
        disc.billedTurns[1] = disc.turns[1];
        disc.speed = 100;
        disc.age = 0;
        disc.tampered = false;
        if (disc.sealBroken) {
            disc.sealBroken = false;
            disc.seal = ++now.greatestSeal;
        }
        return coins;
    }

    private long pass(int minutes) {
        if (minutes < 1 || minutes > 1440) {
            return -2;
        }
        if (now.time + minutes > 99999) {
            return -5;
        }
        long made = 0;
        for (int i = 0; i < minutes; i++) {
            made += now.minute();
        }
        return made;
    }

    private long write(int meter) {
        if (!isMeter(meter)) {
            return -1;
        }
        Disc disc = now.discs.get(meter);
        pad = "d" + disc.turns[0] + "n" + disc.turns[1] + "#" + disc.seal + (disc.sealBroken ? "!" : "");
        return pad.length();
    }

    private long of(int meter, int what) {
        if (!isMeter(meter)) {
            return -1;
        }
        Disc disc = now.discs.get(meter);
        long weaker = disc.speed == 160 ? -6 : Math.max(1, now.settings[3] - disc.age);
        long[] all = {disc.through, now.power(meter), disc.place, disc.speed, disc.turns[0], disc.turns[1], disc.energy / 6000,
            disc.seal, disc.sealBroken ? 1 : 0, disc.coins, weaker, disc.visits};
        return what < 0 || what >= all.length ? -2 : all[what];
    }

    private long ofLoad(int load, int what) {
        if (!isLoad(load)) {
            return -1;
        }
        return what < 0 || what > 2 ? -2 : now.loads.get(load)[what];
    }

    private long misses(int meter) {
        if (!isMeter(meter)) {
            return -1;
        }
        Disc disc = now.discs.get(meter);
        return disc.energy - 6000 * turns(disc) - disc.place + 10000000000L;
    }

    private long fed(int meter) {
        if (!isMeter(meter)) {
            return -1;
        }
        long set = 0;
        for (int i = 0; i < now.discs.size(); i++) {
            set += now.isBehind(i, meter) ? 1L << i : 0;
        }
        return set;
    }

    private long count(int what) {
        long on = 0;
        for (int i = 0; i < now.loads.size(); i++) {
            on += (long) now.loads.get(i)[2] << i;
        }
        long broken = 0;
        long made = 0;
        long coins = 0;
        for (int i = 0; i < now.discs.size(); i++) {
            broken += now.discs.get(i).sealBroken ? 1L << i : 0;
            made += turns(now.discs.get(i));
            coins += now.discs.get(i).coins;
        }
        int[] s = now.settings;
        long[] all = {now.time, now.night() ? 1 : 0, now.discs.size(), now.loads.size(), on, broken, made, coins, now.greatestSeal,
            s[0], s[1], s[2], s[3], s[4], s[5], pad.length(), history.size()};
        return what < 0 || what >= all.length ? -2 : all[what];
    }

    private long turnsIn(int meter) {
        if (!isMeter(meter)) {
            return -1;
        }
        State then = now.copy();
        long before = turns(then.discs.get(meter));
        for (int i = 1; i <= 3000; i++) {
            then.minute();
            if (turns(then.discs.get(meter)) > before) {
                return i;
            }
        }
        return -6;
    }

    private long wouldTurn(int meter, int minutes, int night) {
        if (!isMeter(meter)) {
            return -1;
        }
        if (minutes < 1 || minutes > 1440 || night != 0 && night != 1) {
            return -2;
        }
        State then = now.copy();
        for (int i = 0; i < minutes; i++) {
            then.minute();
        }
        return then.discs.get(meter).turns[night] - now.discs.get(meter).turns[night];
    }

    private long worst() {
        long most = Long.MIN_VALUE;
        long worst = -6;
        for (int i = 0; i < now.discs.size(); i++) {
            if (misses(i) > most) {
                most = misses(i);
                worst = i;
            }
        }
        return worst;
    }

    private long lags(int meter) {
        if (!isMeter(meter)) {
            return -1;
        }
        long answer = 10000000 - turns(now.discs.get(meter));
        for (Disc disc : now.discs) {
            answer += disc.through == meter ? turns(disc) : 0;
        }
        return answer;
    }

    private long put(long characters) {
        StringBuilder text = new StringBuilder();
        boolean ended = false;
        for (int i = 0; i < 8; i++) {
            long code = characters >> 8 * i & 255;
            if (code == 0) {
                ended = true;
            } else if (ended || code < 33 || code > 126) {
                return -2;
            } else {
                text.insert(0, (char) code);
            }
        }
        if (text.length() == 0) {
            return -2;
        }
        if (pad.length() + text.length() > 80) {
            return -4;
        }
        pad += text;
        return pad.length();
    }

    private long wipe() {
        int had = pad.length();
        pad = "";
        return had;
    }

    private long fault() {
        for (int i = 1; i <= pad.length(); i++) {
            Matcher matcher = ORDERS.matcher(pad.substring(0, i));
            if (!matcher.matches() && !matcher.hitEnd()) {
                return i - 1;
            }
        }
        return ORDERS.matcher(pad).matches() ? -6 : pad.length();
    }

    private long carryOut() {
        if (fault() != -6) {
            return -3;
        }
        record();
        int done = 0;
        for (String order : pad.split(";")) {
            String rest = order.substring(1);
            String[] parts = rest.split("=");
            int first = parts[0].isEmpty() ? 0 : Integer.parseInt(parts[0]);
            int second = parts.length > 1 ? Integer.parseInt(parts[1]) : 0;
            int call = order.charAt(0) == 'm' ? 1 : order.charAt(0) == 'l' ? 2 : order.charAt(0) == 's' ? 3
                : order.charAt(0) == 'b' ? 4 : order.charAt(0) == 'v' ? 5 : 6;
            if (change(false, call, first, second) < 0) {
                break;
            }
            done++;
        }
        pad = "";
        return done;
    }

    private long undo() {
        if (history.isEmpty()) {
            return -5;
        }
        now = history.removeLast();
        return history.size();
    }

    private long save(int slot) {
        if (slot != 0 && slot != 1) {
            return -2;
        }
        slots[slot] = now.copy();
        return now.discs.size();
    }

    private long restore(int slot) {
        if (slot != 0 && slot != 1) {
            return -2;
        }
        if (slots[slot] == null) {
            return -5;
        }
        record();
        now = slots[slot].copy();
        return now.discs.size();
    }

    private long sign(int place) {
        return place < 0 || place >= pad.length() ? -1 : pad.charAt(place);
    }

    /** Answers the call with a number of ModelTest.NAMES. */
    long answer(int call, int a, int b, int c, long characters) {
        switch (call) {
            case 7: return write(a);
            case 8: return sign(a);
            case 9: return of(a, b);
            case 10: return ofLoad(a, b);
            case 11: return misses(a);
            case 12: return fed(a);
            case 13: return count(a);
            case 14: return isMeter(a) ? owed(now.discs.get(a)) : -1;
            case 15: return turnsIn(a);
            case 16: return wouldTurn(a, b, c);
            case 17: return worst();
            case 18: return lags(a);
            case 19: return put(characters);
            case 20: return wipe();
            case 21: return fault();
            case 22: return carryOut();
            case 23: return undo();
            case 24: return save(a);
            case 25: return restore(a);
            default: return change(true, call, a, b);
        }
    }
}
