import java.util.function.Predicate;
import java.util.function.ToLongFunction;

/**
 * What the tests of the boundaries have in common: each says the sentence of the document that it is
 * about, tells tricks as texts, and compares answers with those that are due.
 */
abstract class Trial {
    static final String SMALL = "trick cards 4 suits 2 hand 2 kept 1 she";
    static final String EIGHT = "trick cards 8 suits 2 hand 3 kept 1 she";
    static final String FOUR_RULES = ";rule s suit;rule t table;rule w keeps low tells place;rule x keeps sum tells ring";

    private static int checks = 0;
    private static int wrong = 0;
    private static int sentences = 0;
    private static String sentence = "";

    // ---- what is due

    /** From here on this sentence is tested: the promise or the term in which it stands, and its words. */
    static void sentence(String place, String words) {
        sentences++;
        sentence = place + " '" + words + "'";
    }

    static void due(String what, long got, long want) {
        checks++;
        if (got != want) {
            miss(what, "" + got, "" + want);
        }
    }

    static void due(String what, boolean got, boolean want) {
        checks++;
        if (got != want) {
            miss(what, "" + got, "" + want);
        }
    }

    static void same(String what, String got, String want) {
        checks++;
        if (!got.equals(want)) {
            miss(what, got, want);
        }
    }

    private static void miss(String what, String got, String want) {
        wrong++;
        System.out.println(sentence + ": " + what + " answered " + got + ", due is " + want);
    }

    static void finish() {
        System.out.println(sentences + " sentences, " + checks + " checks, " + wrong + " wrong");
        if (wrong != 0) {
            System.exit(1);
        }
    }

    // ---- texts

    /** Puts a text behind THE TAPE, with blanks up to the next twenty bytes. */
    static void put(FifthCard x, String text) {
        for (int from = 0; from < text.length(); from += 20) {
            int[] five = new int[5];
            for (int i = 0; i < 20; i++) {
                int at = from + i;
                five[i / 4] = five[i / 4] << 8 | (at < text.length() ? text.charAt(at) : ' ') & 255;
            }
            x.feed(five[0], five[1], five[2], five[3], five[4]);
        }
    }

    /** Only for an object whose TAPE is empty. */
    static int tell(FifthCard x, String text) {
        put(x, text);
        return x.trick(text.length());
    }

    static FifthCard told(String text) {
        FifthCard x = new FifthCard();
        if (tell(x, text) < 0) {
            miss("'" + text + "'", "FAULT " + x.fault() + " at " + x.where(), "none");
        }
        return x;
    }

    /** A TRICK with something of all that can stay or go: EVENINGS, SEED, an IMAGE, bytes on THE TAPE. */
    static FifthCard filled(String text) {
        FifthCard x = told(text);
        x.seed(7);
        x.image();
        x.draw();
        x.shows(2, 3);
        x.shows(2, 1);
        put(x, "left");
        return x;
    }

    static FifthCard filled() {
        return filled(SMALL + FOUR_RULES + ";evening 0,3 shows 2");
    }

    /** A text that is a TRICK with so many RULES. */
    static FifthCard sound(String text, int rules) {
        FifthCard x = new FifthCard();
        due("'" + text + "'", tell(x, text), rules);
        due("'" + text + "': trouble()", x.trouble(), 0);
        due("'" + text + "': fault()", x.fault(), 0);
        due("'" + text + "': where()", x.where(), -1);
        due("'" + text + "': size(7)", x.size(7), rules);
        due("'" + text + "': size(11)", x.size(11), 0);
        return x;
    }

    /** A text with ^ at the place of its FAULT; the TRICK that was there before stays. */
    static void faulty(String marked, int fault) {
        int place = marked.indexOf('^');
        String text = marked.substring(0, place) + marked.substring(place + 1);
        FifthCard x = filled();
        x.trick(0);
        String before = state(x, false);
        due("'" + marked + "'", tell(x, text), -1);
        due("'" + marked + "': trouble()", x.trouble(), 4);
        due("'" + marked + "': fault()", x.fault(), fault);
        due("'" + marked + "': where()", x.where(), place);
        due("'" + marked + "': size(11)", x.size(11), 0);
        same("'" + marked + "': what stays", state(x, false), before);
    }

    // ---- calls

    /** All that is kept and can be asked for, but for what is in the IMAGES. */
    private static String state(FifthCard x, boolean all) {
        StringBuilder s = new StringBuilder();
        s.append("hands ").append(x.hands()).append(" rows ").append(x.rows()).append(" sizes");
        for (int what = 0; what < 11; what++) {
            s.append(' ').append(x.size(what));
        }
        s.append(" words");
        for (int rule = 0; rule < 4; rule++) {
            s.append(' ').append(x.words(rule));
        }
        s.append(" evenings");
        for (int e = 0; e < x.size(8); e++) {
            s.append(' ').append(x.evening(e, false)).append('/').append(x.evening(e, true));
        }
        if (all) {
            s.append(" tape ").append(x.size(11)).append(" fault ").append(x.fault());
        }
        return s.toString();
    }

    static String state(FifthCard x) {
        return state(x, true);
    }

    /** A call that answers NONE: TROUBLE behind it, and all is as it was. */
    static void refused(FifthCard x, String what, ToLongFunction<FifthCard> call, int trouble) {
        String before = state(x);
        due(what, call.applyAsLong(x), -1);
        leftAlone(x, what, trouble, before);
    }

    /** The same of a call that answers false. */
    static void denied(FifthCard x, String what, Predicate<FifthCard> call, int trouble) {
        String before = state(x);
        due(what, call.test(x), false);
        leftAlone(x, what, trouble, before);
    }

    private static void leftAlone(FifthCard x, String what, int trouble, String before) {
        due(what + ": trouble()", x.trouble(), trouble);
        due(what + ": where()", x.where(), -1);
        same(what + ": what stays", state(x), before);
    }

    /** A call that isn't refused, though the one ahead of it was. */
    static void answered(FifthCard x, String what, ToLongFunction<FifthCard> call, long want) {
        x.judge(-1);
        due(what, call.applyAsLong(x), want);
        due(what + ": trouble()", x.trouble(), 0);
    }

    static void granted(FifthCard x, String what, Predicate<FifthCard> call) {
        answered(x, what, y -> call.test(y) ? 1 : 0, 1);
    }

    /** Numbers beyond a bound on both sides, near and far: there is nothing below 0 and from the bound on. */
    static int[] beyond(int bound) {
        return new int[] {-1, -2, Integer.MIN_VALUE, bound, bound + 1, Integer.MAX_VALUE};
    }

    // ---- rows

    /** The CARDS of a ROW, parted by blanks, ' behind those that are tilted; "-2" for none. */
    static String rowText(FifthCard x, int r) {
        if (r < 0) {
            return "" + r;
        }
        StringBuilder s = new StringBuilder();
        int shown = x.size(2) - x.size(3);
        for (int i = 0; i < shown; i++) {
            s.append(i > 0 ? " " : "").append(x.row(r, i)).append((x.tilted(r) >> i & 1) == 1 ? "'" : "");
        }
        return s.toString();
    }

    static String handText(FifthCard x, int h) {
        StringBuilder s = new StringBuilder();
        for (int i = 0; i < x.size(2); i++) {
            s.append(i > 0 ? " " : "").append(x.hand(h, i));
        }
        return s.toString();
    }

    static int handOf(FifthCard x, int... cards) {
        int[] five = {-1, -1, -1, -1, -1};
        System.arraycopy(cards, 0, five, 0, cards.length);
        return x.handOf(five[0], five[1], five[2], five[3], five[4]);
    }

    /** The ROW that a RULE LAYS for the HAND of these CARDS. */
    static String laidFor(FifthCard x, int rule, int... cards) {
        return rowText(x, x.lays(rule, handOf(x, cards)));
    }

    /** The CARDS that a RULE keeps of these. */
    static String keptOf(FifthCard x, int rule, int... cards) {
        StringBuilder s = new StringBuilder();
        for (int i = 0; i < x.size(3); i++) {
            s.append(i > 0 ? " " : "").append(x.kept(rule, handOf(x, cards), i));
        }
        return s.toString();
    }
}
