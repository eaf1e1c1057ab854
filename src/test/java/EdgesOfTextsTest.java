/** The boundary cases of the pad and of orders: the document's "Texts", and promises 9, 10 and 21 to 24. */
public final class EdgesOfTextsTest {
    private static final int NO_SUCH = EnergyDiscs.NO_SUCH;
    private static final int BAD_VALUE = EnergyDiscs.BAD_VALUE;
    private static final int BAD_TEXT = EnergyDiscs.BAD_TEXT;
    private static final int TOO_MANY = EnergyDiscs.TOO_MANY;
    private static final int NONE = EnergyDiscs.NONE;
    private static final int[] EXTREMES = Houses.EXTREMES;
    private static final String FULL_TEXT = Houses.FULL_TEXT;
    private static final String NAMES = "mlstbv";
    private static final String DIGITS = "0123456789";

    private static void due(String call, long got, long want) {
        Check.due(call, got, want);
    }

    private static EnergyDiscs withPad(String text) {
        EnergyDiscs x = Houses.empty();
        Check.pad(x, text);
        return x;
    }

    private static void lengthOfThePad() {
        Check.sentence("The pad is a text of at most 80 characters.");
        for (int length = 72; length <= 80; length++) {
            for (int given = 1; given <= 8; given++) {
                String before = FULL_TEXT.substring(0, length);
                EnergyDiscs x = withPad(before);
                String more = "ABCDEFGH".substring(0, given);
                boolean fits = length + given <= 80;
                due("put() of " + given + " behind " + length, x.put(Check.packed(more)), fits ? length + given : TOO_MANY);
                Check.padIs(x, fits ? before + more : before);
            }
        }
    }

    private static void charactersOfAPut() {
        Check.sentence("1 to 8 characters");
        for (int given = 1; given <= 8; given++) {
            EnergyDiscs x = Houses.empty();
            String text = "!~abcdeZ".substring(0, given);
            due("put() of " + given, x.put(Check.packed(text)), given);
            Check.padIs(x, text);
        }
        Check.sentence("BAD_VALUE if there is no character");
        EnergyDiscs x = Houses.empty();
        due("put(0)", x.put(0), BAD_VALUE);
        for (int bytes = 1; bytes < 8; bytes++) {
            due("put() of characters above 8 bits that are 0", x.put((long) 'a' << 8 * bytes), BAD_VALUE);
        }
        due("count(15)", x.count(15), 0);
    }

    private static void codesOfAPut() {
        Check.sentence("a code is not 33 to 126");
        for (int place = 0; place < 8; place++) {
            long others = Check.packed("aaaaaaaa") & ~(255L << 8 * place);
            for (int code = 0; code < 256; code++) {
                EnergyDiscs x = Houses.empty();
                // 0 as the highest code of 8 means that there are but 7 characters.
                int length = code >= 33 && code <= 126 ? 8 : code == 0 && place == 7 ? 7 : BAD_VALUE;
                due("put() with the code " + code + " at " + place + " from the end", x.put(others | (long) code << 8 * place), length);
                due("count(15)", x.count(15), Math.max(0, length));
                if (length == 8) {
                    due("sign()", x.sign(7 - place), code);
                }
            }
        }
        EnergyDiscs x = Houses.empty();
        for (long characters : new long[] {-1, Long.MIN_VALUE, Long.MAX_VALUE, Integer.MIN_VALUE, Integer.MAX_VALUE, 31, 32, 127, 128, 255, 256}) {
            due("put(" + characters + ")", x.put(characters), BAD_VALUE);
        }
        due("put(33)", x.put(33), 1);
        due("put(126)", x.put(126), 2);
    }

    private static void bitsAboveTheCharacters() {
        Check.sentence("or a bit above 8 bits that are 0 is not 0");
        for (int given = 1; given < 7; given++) {
            long characters = Check.packed("abcdef".substring(0, given));
            EnergyDiscs x = Houses.empty();
            for (int bit = 8 * (given + 1); bit < 64; bit++) {
                due("put() of " + given + " with the bit " + bit, x.put(characters | 1L << bit), BAD_VALUE);
            }
            due("put() of " + given, x.put(characters), given);
        }
    }

    private static void putIsRefusedInOrder() {
        Check.sentence("or a bit above 8 bits that are 0 is not 0; TOO_MANY if the pad would be longer than 80.");
        EnergyDiscs x = withPad(FULL_TEXT);
        due("put(0) behind 80", x.put(0), BAD_VALUE);
        due("put(32) behind 80", x.put(32), BAD_VALUE);
        due("put(127) behind 80", x.put(127), BAD_VALUE);
        due("put(-1) behind 80", x.put(-1), BAD_VALUE);
        due("put('a' with a bit far above) behind 80", x.put(1L << 63 | 'a'), BAD_VALUE);
        due("put('a') behind 80", x.put('a'), TOO_MANY);
        Check.padIs(x, FULL_TEXT);
    }

    private static void sign() {
        Check.sentence("Returns the code; NO_SUCH if there is no such place.");
        for (String text : new String[] {"", "a", "~!", FULL_TEXT.substring(0, 79), FULL_TEXT}) {
            EnergyDiscs x = withPad(text);
            for (int place : new int[] {-1, text.length(), text.length() + 1, 80, 81, EXTREMES[0], EXTREMES[1]}) {
                due("sign(" + place + ") of " + text.length(), x.sign(place), NO_SUCH);
            }
            for (int place = 0; place < text.length(); place++) {
                due("sign(" + place + ")", x.sign(place), text.charAt(place));
            }
        }
        EnergyDiscs x = withPad(FULL_TEXT);
        x.wipe();
        x.put('a');
        due("sign(1) where a character was before", x.sign(1), NO_SUCH);
    }

    private static void wipe() {
        Check.sentence("Empties the pad, and returns the length that it had.");
        for (String text : new String[] {"", "a", FULL_TEXT}) {
            EnergyDiscs x = withPad(text);
            due("wipe()", x.wipe(), text.length());
            due("count(15)", x.count(15), 0);
            due("sign(0)", x.sign(0), NO_SUCH);
            due("wipe() of an empty pad", x.wipe(), 0);
        }
    }

    private static void writeInPlaceOfWhatWasThere() {
        Check.sentence("Writes what a meter tells into the pad, in place of what was there.");
        for (String text : new String[] {"", "a", FULL_TEXT}) {
            EnergyDiscs x = Houses.chain();
            Check.pad(x, text);
            for (int meter : new int[] {-1, 7, EXTREMES[0], EXTREMES[1]}) {
                due("write(" + meter + ")", x.write(meter), NO_SUCH);
                Check.padIs(x, text);
            }
            due("write(0)", x.write(0), 6);
            Check.padIs(x, "d0n0#1");
            due("sign(6)", x.sign(6), NO_SUCH);
            due("write(6)", x.write(6), 6);
            Check.padIs(x, "d0n0#7");
        }
        due("write(0) in an empty house", Houses.empty().write(0), NO_SUCH);
    }

    private static void writeOfManyDigits() {
        Check.sentence("What a meter tells is written as \"d\", its turns by day, \"n\", those by night, \"#\", the number of its seal");
        int[] times = {361, 369, 370, 459, 460, 1320};
        int[] turnsByDay = {1, 9, 10, 99, 100, 960};
        EnergyDiscs x = Houses.turningFrom(360);
        for (int i = 0; i < times.length; i++) {
            Houses.passTo(x, times[i]);
            x.write(0);
            Check.padIs(x, "d" + turnsByDay[i] + "n0#1");
        }
        x = Houses.turningFrom(0);
        for (int turns : new int[] {1, 9, 10, 99, 100, 360}) {
            Houses.passTo(x, turns);
            x.write(0);
            Check.padIs(x, "d0n" + turns + "#1");
        }
        x = Check.house(0);
        for (int seal = 1; seal <= 101; seal++) {
            String want = "d0n0#" + seal;
            due("write(0)", x.write(0), want.length());
            if (seal == 9 || seal == 10 || seal > 98) {
                Check.padIs(x, want);
            }
            x.tamper(0);
            x.visit(0);
        }
        x = Houses.withTheGreatestSpeed();
        Houses.addPower(x, 0, 48000);
        Houses.passTo(x, Houses.LATEST);
        x.write(0);
        Check.padIs(x, "d" + x.of(0, 4) + "n" + x.of(0, 5) + "#1");
        Check.holds("there are turns of 6 digits", x.of(0, 4) > 99999 && x.of(0, 5) > 99999);
    }

    private static void writeOfABrokenSeal() {
        Check.sentence("and \"!\", if that is broken.");
        EnergyDiscs x = Check.house(0, 0);
        x.tamper(0);
        due("write(0)", x.write(0), 7);
        Check.padIs(x, "d0n0#1!");
        due("write(1)", x.write(1), 6);
        Check.padIs(x, "d0n0#2");
        x.visit(0);
        due("write(0) after a visit", x.write(0), 6);
        Check.padIs(x, "d0n0#3");
    }

    /** Each character that there is comes behind a text that can go on: only those that are told may stand there. */
    private static void mayFollow(String text, String signs) {
        for (char sign = 33; sign <= 126; sign++) {
            String longer = text + sign;
            int fault = withPad(longer).fault();
            boolean stands = fault == NONE || fault == longer.length();
            if (signs.indexOf(sign) >= 0) {
                due("whether the last of " + longer + " can stand there", stands ? 1 : 0, 1);
            } else {
                due("fault() of " + longer, fault, text.length());
                due("fault() of " + longer + ";", withPad(longer + ";").fault(), text.length());
            }
        }
    }

    private static void charactersThatCannotStand() {
        Check.sentence("The fault is the index of the first character that cannot stand at its place when the text is read from left to right");
        String end = ";";
        for (String before : new String[] {"", "m;", "s0;", "l9=9999;"}) {
            mayFollow(before, NAMES);
            mayFollow(before + "m", DIGITS + end);
            mayFollow(before + "m0", end);
            mayFollow(before + "m9", end);
            mayFollow(before + "l", DIGITS);
            mayFollow(before + "l0", "=");
            mayFollow(before + "l9", "=");
            for (String name : new String[] {"l0=", "l9=", "s", "t"}) {
                mayFollow(before + name, DIGITS);
                mayFollow(before + name + "1", DIGITS + end);
                mayFollow(before + name + "9", DIGITS + end);
            }
            for (String name : new String[] {"b", "v"}) {
                mayFollow(before + name, DIGITS);
                mayFollow(before + name + "0", end);
                mayFollow(before + name + "9", end);
            }
        }
    }

    private static void numbers() {
        Check.sentence("A digit is 0 to 9, a number 0 to 9999, without leading zeros.");
        for (String name : new String[] {"l0=", "s", "t", "m;l9=", "m;s"}) {
            for (String number : new String[] {"0", "1", "9", "10", "99", "100", "999", "1000", "9999"}) {
                due("fault() of " + name + number, withPad(name + number).fault(), NONE);
            }
            for (String number : new String[] {"00", "01", "09", "00000"}) {
                due("fault() of " + name + number, withPad(name + number).fault(), name.length() + 1);
            }
            mayFollow(name + "0", ";");
            mayFollow(name + "10", DIGITS + ";");
            mayFollow(name + "99", DIGITS + ";");
            mayFollow(name + "100", DIGITS + ";");
            mayFollow(name + "999", DIGITS + ";");
        }
        Check.sentence("(also of a digit by which a number would be above 9999)");
        for (String name : new String[] {"l0=", "s", "t", "m;l9=", "m;s"}) {
            mayFollow(name + "1000", ";");
            mayFollow(name + "9999", ";");
            due("fault() of a number that is far too great", withPad(name + "99999999999").fault(), name.length() + 4);
        }
    }

    private static void endsTooEarly() {
        Check.sentence("if there is none and the text ends too early (also if it is empty), it is the length of the text.");
        due("fault() of a new object", Houses.empty().fault(), 0);
        for (String before : new String[] {"", "m;", "t9999;", "m0;v9;"}) {
            for (String text : new String[] {"", "l", "l0", "l9=", "s", "t", "b", "v"}) {
                due("fault() of " + before + text, withPad(before + text).fault(), before.length() + text.length());
            }
            for (String text : new String[] {"m", "m0", "m9", "l0=0", "l9=9999", "s0", "s1", "s12", "s123", "t1234", "b0", "v9"}) {
                due("fault() of " + before + text, withPad(before + text).fault(), NONE);
                due("fault() of " + before + text + ";", withPad(before + text + ";").fault(), before.length() + text.length() + 1);
            }
        }
    }

    private static void faultOfAFullPad() {
        Check.sentence("Returns the fault of the pad, NONE if there is none.");
        due("fault() of 80 good characters", withPad(FULL_TEXT).fault(), NONE);
        due("fault() of 80 characters that end too early", withPad("m;".repeat(40)).fault(), 80);
        due("fault() of 80 characters with a bad one at the end", withPad("m;".repeat(39) + "mm").fault(), 79);
        due("fault() of 80 characters with a bad one at first", withPad("x" + FULL_TEXT.substring(1)).fault(), 0);
        due("fault() of 80 characters with a bad one in the middle", withPad("m;".repeat(20) + "x;" + "m;".repeat(19)).fault(), 40);
        due("fault() of 79 good characters", withPad("m;".repeat(39) + "m").fault(), NONE);
        EnergyDiscs x = withPad(FULL_TEXT);
        x.wipe();
        due("fault() of an emptied pad", x.fault(), 0);
        x = Check.house(0);
        x.write(0);
        due("fault() of what a meter tells", x.fault(), 0);
    }

    private static void carryOutOfAFault() {
        Check.sentence("BAD_TEXT if the pad has a fault (then it stays).");
        for (String text : new String[] {"", "m;", ";", "m;m;x", "m;".repeat(40), FULL_TEXT.substring(0, 79) + "x"}) {
            EnergyDiscs x = withPad(text);
            due("carryOut() of " + text, x.carryOut(), BAD_TEXT);
            Check.padIs(x, text);
            due("count(2): none is carried out", x.count(2), 0);
            due("count(16)", x.count(16), 0);
        }
    }

    private static void carries(EnergyDiscs x, String text, int done) {
        Check.pad(x, text);
        int changes = x.count(16);
        due("carryOut() of " + text, x.carryOut(), done);
        due("count(15) after " + text, x.count(15), 0);
        due("count(16) after " + text, x.count(16), Math.min(6, changes + 1));
    }

    private static void ordersOfMeters() {
        Check.sentence("\"m\": meter() fed through a meter (the meter 0 without)");
        EnergyDiscs x = Houses.empty();
        carries(x, "m9;m1", 1);
        carries(x, "m0;m2", 1);
        carries(x, "m1;m;m3;m4;m0", 5);
        due("count(2)", x.count(2), 7);
        int[] through = {NONE, 0, 1, 0, 3, 4, 0};
        for (int i = 0; i < 7; i++) {
            due("of(" + i + ", 0)", x.of(i, 0), through[i]);
        }
        carries(x, "m", 0);
        carries(x, "m6", 0);
        carries(x, "m7", 0);
        due("count(2)", x.count(2), 7);
        EnergyDiscs first = Houses.empty();
        carries(first, "m;m", 2);
        due("of(0, 0)", first.of(0, 0), NONE);
        due("of(1, 0)", first.of(1, 0), 0);
    }

    private static void ordersOfLoads() {
        Check.sentence("\"l\": load() behind a meter, with its power");
        EnergyDiscs x = Houses.chain();
        carries(x, "l0=1;l6=4000;l7=1", 2);
        carries(x, "l9=4000", 0);
        carries(x, "l0=0", 0);
        carries(x, "l6=4001", 0);
        carries(x, "l6=9999", 0);
        due("count(3)", x.count(3), 2);
        due("ofLoad(0, 0)", x.ofLoad(0, 0), 0);
        due("ofLoad(0, 1)", x.ofLoad(0, 1), 1);
        due("ofLoad(1, 0)", x.ofLoad(1, 0), 6);
        due("ofLoad(1, 1)", x.ofLoad(1, 1), 4000);
        carries(x, "l1=10;l2=20;l3=30;l4=40;l5=50;l1=60;l1=70;l1=80;l1=90;l1=100;l1=110", 10);
        due("count(3)", x.count(3), 12);
        Check.sentence("\"s\": turn() a load on or off");
        carries(x, "s0;s11;s0;s12", 3);
        carries(x, "s9999", 0);
        due("count(4)", x.count(4), 2048);
    }

    private static void ordersOfMinutes() {
        Check.sentence("\"t\": pass() minutes");
        EnergyDiscs x = Houses.empty();
        carries(x, "t1;t1440;t0", 2);
        carries(x, "t1441", 0);
        carries(x, "t9999", 0);
        due("count(0)", x.count(0), 1441);
        Houses.passTo(x, Houses.LATEST - 3);
        carries(x, "t1;t3;t1", 1);
        carries(x, "t2;t1", 1);
        carries(x, "t1", 0);
        carries(x, "t1440", 0);
        due("count(0)", x.count(0), Houses.LATEST);
    }

    private static void ordersOfSeals() {
        Check.sentence("\"b\": tamper() with a meter; \"v\": visit().");
        EnergyDiscs x = Houses.chain();
        carries(x, "b0;b6;b6;b1", 2);
        carries(x, "b7", 0);
        carries(x, "b9", 0);
        due("count(5)", x.count(5), 65);
        carries(x, "v6;v6;b6;v7;v0", 3);
        carries(x, "v9", 0);
        due("count(5)", x.count(5), 65);
        due("of(6, 11)", x.of(6, 11), 2);
        due("of(6, 7)", x.of(6, 7), 8);
        due("of(0, 11)", x.of(0, 11), 0);
    }

    private static void carryOutUpToTheFirstError() {
        Check.sentence("Carries the orders of the pad out, one after the other, up to the first one that returns an error, and empties the pad.");
        EnergyDiscs x = Houses.empty();
        carries(x, FULL_TEXT, 7);
        due("count(2)", x.count(2), 7);
        carries(x, FULL_TEXT, 0);
        carries(x, "s0", 0);
        carries(x, "t1;".repeat(26) + "t1", 27);
        due("count(0)", x.count(0), 27);
        carries(x, "t1;t2;v9;t4", 2);
        due("count(0): those before the error stay, those behind it are not carried out", x.count(0), 30);
    }

    private static String counts(EnergyDiscs x) {
        StringBuilder all = new StringBuilder();
        for (int what = 0; what <= 8; what++) {
            all.append(x.count(what)).append(' ');
        }
        return all.toString();
    }

    private static void carryOutIsOneChange() {
        Check.sentence("This is a change (one, with all of them; also if none is carried out).");
        EnergyDiscs x = Houses.empty();
        String[] told = new String[9];
        String[] texts = {"m;m", "s0", "l1=4000;s0", "t0", "t100;b1", "v1;v0;t1", "v3", "m;m;m;m;m;m"};
        int[] done = {2, 0, 2, 0, 2, 3, 0, 5};
        for (int i = 0; i < texts.length; i++) {
            told[i] = counts(x);
            carries(x, texts[i], done[i]);
        }
        for (int i = texts.length - 1; i >= 2; i--) {
            due("undo()", x.undo(), i - 2);
            Check.same("undo() of " + texts[i], counts(x), told[i]);
        }
        due("undo()", x.undo(), EnergyDiscs.NOT_POSSIBLE);
        due("count(15): undo() brings no text back", x.count(15), 0);
    }

    public static void main(String[] args) {
        lengthOfThePad();
        charactersOfAPut();
        codesOfAPut();
        bitsAboveTheCharacters();
        putIsRefusedInOrder();
        sign();
        wipe();
        writeInPlaceOfWhatWasThere();
        writeOfManyDigits();
        writeOfABrokenSeal();
        charactersThatCannotStand();
        numbers();
        endsTooEarly();
        faultOfAFullPad();
        carryOutOfAFault();
        ordersOfMeters();
        ordersOfLoads();
        ordersOfMinutes();
        ordersOfSeals();
        carryOutUpToTheFirstError();
        carryOutIsOneChange();
        Check.end();
    }
}
