/** Compares answers with those that are due, for all tests of the project. */
final class Check {
    /** Orders that can be carried out in a house with a load: made once, for a test that measures room. */
    static final long PACKED_ORDERS = packed("s0;t9;s0");

    private static int wrong = 0;
    private static String sentence = "";

    private Check() {
    }

    /** Tells the sentence of the document that the checks from here on hold it to: a wrong answer is told with it. */
    static void sentence(String words) {
        sentence = "\"" + words + "\": ";
    }

    static void due(String call, long got, long want) {
        if (got != want) {
            wrong++;
            System.out.println(sentence + call + " answered " + got + ", due is " + want);
        }
    }

    static void holds(String what, boolean so) {
        if (!so) {
            wrong++;
            System.out.println(sentence + "it does not hold that " + what);
        }
    }

    /** A text as put() takes it, of at most 8 characters. */
    static long packed(String text) {
        long characters = 0;
        for (int i = 0; i < text.length(); i++) {
            characters = characters << 8 | text.charAt(i);
        }
        return characters;
    }

    static void pad(EnergyDiscs x, String text) {
        x.wipe();
        for (int i = 0; i < text.length(); i += 8) {
            x.put(packed(text.substring(i, Math.min(text.length(), i + 8))));
        }
        due("count(15) with the pad " + text, x.count(15), text.length());
    }

    static String padOf(EnergyDiscs x) {
        StringBuilder text = new StringBuilder();
        int length = x.count(15);
        for (int i = 0; i < length; i++) {
            text.append((char) x.sign(i));
        }
        return text.toString();
    }

    static void padIs(EnergyDiscs x, String want) {
        same("the pad", padOf(x), want);
    }

    /** A house with meters that are fed as told: the first one from outside. */
    static EnergyDiscs house(int... through) {
        EnergyDiscs x = new EnergyDiscs();
        for (int i = 0; i < through.length; i++) {
            due("meter(" + through[i] + ")", x.meter(through[i]), i);
        }
        return x;
    }

    /** All that can be asked without a change, but for the pad, the slots and the history. */
    static String told(EnergyDiscs x) {
        StringBuilder all = new StringBuilder();
        for (int what = 0; what <= 14; what++) {
            all.append(x.count(what)).append(' ');
        }
        for (int meter = 0; meter < x.count(2); meter++) {
            all.append("meter ").append(meter).append(": ");
            for (int what = 0; what <= 11; what++) {
                all.append(x.of(meter, what)).append(' ');
            }
            all.append(x.misses(meter)).append(' ').append(x.bill(meter)).append(' ').append(x.turnsIn(meter)).append(' ');
            all.append(x.fed(meter)).append(' ').append(x.lags(meter)).append(' ');
        }
        for (int load = 0; load < x.count(3); load++) {
            all.append("load ").append(load).append(": ");
            for (int what = 0; what <= 2; what++) {
                all.append(x.ofLoad(load, what)).append(' ');
            }
        }
        return all.toString();
    }

    static void same(String what, String got, String want) {
        holds(what + ": " + got + " is " + want, got.equals(want));
    }

    static void end() {
        if (wrong > 0) {
            System.out.println(wrong + " answers are not as due");
            System.exit(1);
        }
    }
}
