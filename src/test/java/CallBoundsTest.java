import java.util.ArrayList;
import java.util.Collections;
import java.util.HashSet;
import java.util.List;
import java.util.NoSuchElementException;
import java.util.Set;
import java.util.function.Consumer;
import java.util.function.ToLongFunction;

/**
 * Promises 1 to 46 and term IV: each sentence that names a boundary or a refused call, with what it
 * answers, what trouble() says behind it, and what must have stayed as it was.
 */
public final class CallBoundsTest extends Trial {
    /** Six HANDS, four ROWS; suit LAYS none for the HANDS 1 to 4, the table for all. */
    private static final String TRICK = SMALL + FOUR_RULES + ";evening 0,3 shows 2;evening 0,1 shows 0";
    private static final int HANDS = 6;
    private static final int ROWS = 4;
    private static final int RULES = 4;
    private static final int EVENINGS = 2;
    private static final int FAR = Integer.MAX_VALUE;

    public static void main(String[] args) {
        constantNone();
        newObjectHasNoTrick();
        newObjectSizes();
        feedTwenty();
        feedHighestFirst();
        feedBehind();
        feedRefused();
        trickFirstBytes();
        trickTapeEmpty();
        trickSeedAndImages();
        trickFromNowOn();
        trickHowManyRules();
        trickRefusedBy2();
        trickRefusedBy4();
        faultOfTheLatest();
        faultNotRefusedBy2();
        faultNone();
        whereItsPlace();
        whereElse();
        hands();
        rows();
        hand();
        handOfCards();
        handOfOrder();
        handOfRefused();
        row();
        tilted();
        fits();
        fitting();
        lays();
        keptCards();
        keptLaysNone();
        says();
        works();
        clash();
        laid();
        laidOfTheMost();
        fails();
        seen();
        borne();
        wordsWork();
        shortest();
        pairs();
        table();
        tableNoRoom();
        count();
        most();
        judge();
        evening();
        agrees();
        wrong();
        found();
        apart();
        mean();
        meanNone();
        hardestFirst();
        hardestRefused();
        showsOneMore();
        showsRefused();
        showsNoRoom();
        seed();
        drawRound();
        drawHand();
        drawRefused();
        strike();
        strikeRefused();
        image();
        imageRefused();
        back();
        backRefused();
        led();
        ledThrows();
        size();
        sizeNone();
        words();
        troubleNumbers();
        troubleOfTheLatest();
        troubleOthersLeaveIt();
        calls512();
        finish();
    }

    private static FifthCard trick() {
        return filled(TRICK);
    }

    /** Refused by 1 for each number beyond a bound. */
    private static void noSuch(String what, int bound, Numbered call) {
        for (int n : beyond(bound)) {
            refused(trick(), what + " " + n, x -> call.ask(x, n), 1);
        }
    }

    private interface Numbered {
        long ask(FifthCard x, int n);
    }

    private static void withoutTrick(String what, ToLongFunction<FifthCard> call) {
        refused(new FifthCard(), what + " without a TRICK", call, 1);
        FifthCard x = new FifthCard();
        tell(x, SMALL + ";");
        refused(x, what + " behind a FAULT alone", call, 1);
    }

    // ---- promises 1 to 5

    private static void constantNone() {
        sentence("the constants", "NONE = -1: There is none; refused");
        due("NONE", FifthCard.NONE, -1);
    }

    private static void newObjectHasNoTrick() {
        sentence("promise 1", "FifthCard(): No TRICK.");
        FifthCard x = new FifthCard();
        due("trouble()", x.trouble(), 0);
        due("fault()", x.fault(), 0);
        due("where()", x.where(), -1);
        refused(x, "hands()", y -> y.hands(), 1);
        due("two of them are two", told(SMALL).hands() + new FifthCard().hands(), 5);
    }

    private static void newObjectSizes() {
        sentence("promise 44", "0 for what there isn't");
        FifthCard x = new FifthCard();
        for (int what = 0; what <= 11; what++) {
            due("size(" + what + ")", x.size(what), 0);
        }
        due("size(12)", x.size(12), -1);
        due("words(0)", x.words(0), -1);
    }

    private static void feedTwenty() {
        sentence("promise 2", "Twenty bytes come behind THE TAPE ..: how many it has");
        FifthCard x = new FifthCard();
        due("the first", x.feed(0, 0, 0, 0, 0), 20);
        due("the second", x.feed(-1, -1, -1, -1, -1), 40);
        due("size(11)", x.size(11), 40);
    }

    private static void feedHighestFirst() {
        sentence("promise 2", "of each number the highest first");
        FifthCard x = new FifthCard();
        // "trick cards 4 suits " and "2 hand 2 kept 1 she "
        x.feed(0x74726963, 0x6b206361, 0x72647320, 0x34207375, 0x69747320);
        x.feed(0x32206861, 0x6e642032, 0x206b6570, 0x74203120, 0x73686520);
        due("read so", x.trick(40), 0);
        due("hands()", x.hands(), 6);
        // the highest bit set: the byte 128 begins no TOKEN
        x.feed(0x20202080, 0x80202020, 0, 0, 0);
        due("128", x.trick(20), -1);
        due("128: where()", x.where(), 3);
    }

    private static void feedBehind() {
        sentence("promise 2", "come behind THE TAPE");
        FifthCard x = new FifthCard();
        put(x, "trick cards 4 suits ");
        put(x, "2 hand 2 kept 1 she");
        due("in this order", x.trick(39), 0);
        // and from its beginning again, when it has been read
        put(x, "rule a suit         ");
        due("anew", x.size(11), 20);
        due("anew: trick(11)", x.trick(11), -1);
        due("anew: fault()", x.fault(), 6);
        due("anew: where()", x.where(), 0);
    }

    private static void feedRefused() {
        sentence("promise 2", "NONE, and none comes, if there would be more than 900");
        FifthCard x = told(SMALL);
        for (int i = 1; i <= 45; i++) {
            due("feed " + i, x.feed(0x20202020, 0x20202020, 0x20202020, 0x20202020, 0x20202020), 20 * i);
        }
        String before = state(x);
        x.count(1, true);
        due("the 46th", x.feed(0, 0, 0, 0, 0), -1);
        due("the 46th: trouble() is as it was", x.trouble(), 2);
        same("the 46th: what stays", state(x), before);
        due("again", x.feed(0, 0, 0, 0, 0), -1);
        // had it come anywhere, a byte 0 would be met ahead of the end
        due("900 blanks", x.trick(900), -1);
        due("900 blanks: where()", x.where(), 900);
        due("room again", x.feed(0, 0, 0, 0, 0), 20);
    }

    private static void trickFirstBytes() {
        sentence("promise 3", "The first n bytes of THE TAPE .. are the TRICK from now on");
        String text = SMALL + ";rule a suit;rule b suit";
        FifthCard x = new FifthCard();
        put(x, text);
        due("up to the first rule", x.trick(SMALL.length() + 12), 1);
        put(x, text);
        due("all of it", x.trick(text.length()), 2);
        put(x, text);
        due("with the blanks behind it", x.trick((text.length() + 19) / 20 * 20), 2);
        put(x, text);
        due("the trick alone", x.trick(SMALL.length()), 0);
        put(x, text);
        due("no bytes", x.trick(0), -1);
        due("no bytes: fault()", x.fault(), 1);
        due("no bytes: where()", x.where(), 0);
    }

    private static void trickTapeEmpty() {
        sentence("promise 3", "(it is empty then)");
        FifthCard x = new FifthCard();
        put(x, SMALL + ";rule a suit");
        x.trick(SMALL.length());
        due("behind a TRICK, what it didn't take too", x.size(11), 0);
        refused(x, "a byte of it", y -> y.trick(1), 2);
        put(x, "rule a suit");
        x.trick(4);
        due("behind a FAULT, too", x.size(11), 0);
        put(x, "rule a suit");
        x.trick(0);
        due("behind none taken, too", x.size(11), 0);
    }

    private static void trickSeedAndImages() {
        sentence("promise 3", "(SEED 0, no IMAGES)");
        FifthCard x = trick();
        x.trick(0);
        due("a SEED", x.size(9) != 0, true);
        due("an IMAGE", x.size(10), 1);
        due("another TRICK", tell(x, SMALL + ";evening 0,1 shows 0"), 0);
        due("SEED", x.size(9), 0);
        due("IMAGES", x.size(10), 0);
        due("its own EVENINGS", x.size(8), 1);
        denied(x, "back(0)", y -> y.back(0), 1);
        due("the first IMAGE again", x.image(), 0);
        tell(x, SMALL);
        due("no EVENINGS", x.size(8), 0);
        due("drawn from SEED 0", x.draw(), 74 % HANDS);
    }

    /** What a TRICK and its RULES answer, in some 150 calls. */
    private static String answers(FifthCard x) {
        StringBuilder s = new StringBuilder(state(x));
        s.append(" any ").append(x.fitting()).append(' ').append(x.pairs()).append(' ').append(x.most()).append(' ')
            .append(x.shortest()).append(' ').append(x.found()).append(' ').append(x.hardest()).append(' ').append(x.table(0));
        for (int words = 0; words < 20; words++) {
            s.append(' ').append(x.wordsWork(words));
        }
        for (int rule = 0; rule < x.size(7); rule++) {
            s.append(" rule ").append(rule).append(": ").append(x.lays(rule, 0)).append(' ').append(x.lays(rule, 3)).append(' ')
                .append(x.lays(rule, x.hands() - 1)).append(' ').append(x.says(rule, 1)).append(' ').append(x.works(rule)).append(' ')
                .append(x.clash(rule, false)).append(' ').append(x.clash(rule, true)).append(' ').append(x.laid(rule)).append(' ')
                .append(x.fails(rule)).append(' ').append(x.agrees(rule)).append(' ').append(x.wrong(rule));
        }
        // behind all else, so that what was asked of one RULE can't be taken for another's
        for (int rule = 0; rule < x.size(7); rule++) {
            s.append(" swaps ").append(x.seen(rule)).append(x.borne(rule));
            for (int other = 0; other < rule; other++) {
                s.append(" apart ").append(x.apart(rule, other));
            }
        }
        return s.toString();
    }

    private static void trickFromNowOn() {
        sentence("promise 3", "are the TRICK from now on");
        String[] texts = {TRICK, "trick cards 8 suits 1 hand 4 kept 1 stranger tilts;rule a keeps low tells gap;rule b suit",
            "trick cards 10 suits 2 hand 5 kept 1 she tilts;rule a table;rule b suit;rule c keeps high tells sum;rule d keeps mid tells place",
            EIGHT + ";rule a keeps sum tells ring;rule b keeps low tells place;rule c keeps sum tells ring;rule d table",
            "trick cards 5 suits 1 hand 4 kept 1 she;rule p keeps high tells place;rule r keeps low tells ring"};
        for (String before : texts) {
            for (String text : texts) {
                FifthCard x = told(before);
                answers(x);
                tell(x, text);
                same(text + " behind " + before, answers(x), answers(told(text)));
                tell(x, "trick cards 4");
                same(text + " behind a FAULT", answers(x).replace("fault 1", "fault 0"), answers(told(text)));
            }
        }
        // the last of these by hand: 1 2 0, 2 0 1, 3 0 1, 3 0 2, 3 1 2, and rising rows, two of them 2 3 4
        FifthCard last = told(TRICK);
        answers(last);
        tell(last, texts[4]);
        due("laid(0)", last.laid(0), 5);
        due("laid(1)", last.laid(1), 4);
        due("clash(1, false)", last.clash(1, false), 4);
        due("clash(1, true)", last.clash(1, true), 3);
        due("seen(0)", last.seen(0), 1);
        due("borne(0)", last.borne(0), 0);
        due("borne(1)", last.borne(1), 1);
    }

    private static void trickHowManyRules() {
        sentence("promise 3", "how many RULES");
        String text = SMALL;
        for (int rules = 0; rules <= 4; rules++) {
            sound(text, rules);
            text += ";rule " + (char) ('a' + rules) + " table";
        }
    }

    private static void trickRefusedBy2() {
        sentence("promise 3", "NONE: 2 (THE TAPE stays)");
        for (int n : new int[] {-1, Integer.MIN_VALUE, 21, 900, FAR}) {
            refused(trick(), "trick(" + n + ") of 20", x -> x.trick(n), 2);
        }
        refused(new FifthCard(), "trick(1) of none", x -> x.trick(1), 2);
        FifthCard x = new FifthCard();
        put(x, SMALL + " ");
        x.trick(41);
        due("what is there is read behind it", x.trick(40), 0);
    }

    private static void trickRefusedBy4() {
        sentence("promise 3", "4 (the TRICK stays)");
        FifthCard x = trick();
        x.trick(0);
        String before = state(x);
        due("another trick with a FAULT at its end", tell(x, "trick cards 12 suits 4 hand 5 kept 2 she held tilts;rule z table;"
            + "evening 0,1,2,3,4 shows 0,1,2;rule"), -1);
        due("trouble()", x.trouble(), 4);
        same("what stays", state(x), before);
        due("its HANDS", x.hand(5, 1), 3);
        due("its RULES", x.lays(2, 3), 2);
        due("its IMAGE", x.back(0), true);
        due("the EVENINGS of its IMAGE", x.size(8), EVENINGS);
        due("the SEED of its IMAGE", x.size(9), 7);
    }

    private static void faultOfTheLatest() {
        sentence("promise 4", "fault(): The FAULT of the latest trick()");
        FifthCard x = new FifthCard();
        tell(x, "rule");
        due("6", x.fault(), 6);
        tell(x, "trick cards 3");
        due("4", x.fault(), 4);
        x.hands();
        x.hand(9, 9);
        due("other calls leave it", x.fault(), 4);
        x.feed(0, 0, 0, 0, 0);
        due("feed leaves it", x.fault(), 4);
    }

    private static void faultNotRefusedBy2() {
        sentence("promise 4", "not refused by 2");
        FifthCard x = new FifthCard();
        tell(x, "rule");
        x.trick(1);
        due("6 still", x.fault(), 6);
        tell(x, SMALL);
        x.trick(-1);
        due("0 still", x.fault(), 0);
    }

    private static void faultNone() {
        sentence("promise 4", "0 without one");
        FifthCard x = new FifthCard();
        due("without a trick()", x.fault(), 0);
        x.trick(5);
        due("with one refused by 2 alone", x.fault(), 0);
        tell(x, "rule");
        tell(x, SMALL);
        due("behind a TRICK", x.fault(), 0);
    }

    private static void whereItsPlace() {
        sentence("promise 5", "where(): Its place, if the latest call that may be refused was by 4");
        FifthCard x = new FifthCard();
        tell(x, "  rule");
        due("2", x.where(), 2);
        due("2 again", x.where(), 2);
        for (Consumer<FifthCard> other : unrefused()) {
            other.accept(x);
            due("behind a call that can't be refused", x.where(), 2);
        }
        x.trick(0);
        due("0", x.where(), 0);
    }

    private static void whereElse() {
        sentence("promise 5", "NONE else");
        due("new", new FifthCard().where(), -1);
        FifthCard x = new FifthCard();
        tell(x, "  rule");
        x.trick(900);
        due("refused by 2", x.where(), -1);
        tell(x, "  rule");
        x.strike();
        due("refused by 6", x.where(), -1);
        tell(x, "  rule");
        x.hands();
        due("refused by 1", x.where(), -1);
        tell(x, "  rule");
        tell(x, SMALL);
        due("a TRICK", x.where(), -1);
        tell(x, "  rule");
        x.hands();
        due("not refused", x.where(), -1);
    }

    // ---- promises 6 to 13

    private static void hands() {
        sentence("promise 6", "hands(): How many HANDS. NONE: 1 (no TRICK)");
        withoutTrick("hands()", x -> x.hands());
        answered(trick(), "hands()", x -> x.hands(), HANDS);
        answered(told("trick cards 4 suits 1 hand 4 kept 1 she"), "the fewest", x -> x.hands(), 1);
        answered(told("trick cards 8 suits 1 hand 4 kept 1 stranger"), "the most", x -> x.hands(), 1680);
    }

    private static void rows() {
        sentence("promise 7", "rows(): How many ROWS. NONE: 1 (no TRICK)");
        withoutTrick("rows()", x -> x.rows());
        answered(trick(), "rows(), the fewest", x -> x.rows(), ROWS);
        answered(told("trick cards 12 suits 1 hand 5 kept 1 she tilts"), "the most", x -> x.rows(), 190080);
    }

    private static void hand() {
        sentence("promise 8", "hand(): The i-th CARD of a HAND. NONE: 1");
        withoutTrick("hand(0, 0)", x -> x.hand(0, 0));
        noSuch("HAND", HANDS, (x, n) -> x.hand(n, 0));
        noSuch("CARD", 2, (x, n) -> x.hand(0, n));
        answered(trick(), "the first", x -> x.hand(0, 0), 0);
        answered(trick(), "the last", x -> x.hand(HANDS - 1, 1), 3);
        for (int size = 2; size <= 5; size++) {
            FifthCard x = told("trick cards 6 suits 1 hand " + size + " kept 1 she");
            int last = size - 1;
            answered(x, "the last of " + size, y -> y.hand(0, last), last);
            refused(x, "none behind the last of " + size, y -> y.hand(0, last + 1), 1);
        }
    }

    private static void handOfCards() {
        sentence("promise 9", "handOf(): The HAND of these CARDS (as many as it has, others -1)");
        answered(trick(), "the first", x -> x.handOf(0, 1, -1, -1, -1), 0);
        answered(trick(), "the last", x -> x.handOf(2, 3, -1, -1, -1), HANDS - 1);
        FifthCard five = told("trick cards 12 suits 1 hand 5 kept 1 she");
        answered(five, "five of them, the first", x -> x.handOf(0, 1, 2, 3, 4), 0);
        answered(five, "five of them, the last", x -> x.handOf(7, 8, 9, 10, 11), 791);
        FifthCard stranger = told("trick cards 8 suits 1 hand 4 kept 1 stranger");
        answered(stranger, "a stranger's last", x -> x.handOf(7, 6, 5, 4, -1), 1679);
        FifthCard all = told("trick cards 6 suits 1 hand 3 kept 1 she");
        for (int h = 0; h < all.hands(); h++) {
            due("HAND " + h, all.handOf(all.hand(h, 2), all.hand(h, 0), all.hand(h, 1), -1, -1), h);
        }
    }

    private static void handOfOrder() {
        sentence("promise 9", "in any order if she lays, else in this one");
        FifthCard she = told("trick cards 12 suits 1 hand 5 kept 1 she");
        answered(she, "falling", x -> x.handOf(11, 10, 9, 8, 7), 791);
        answered(she, "the least at the last", x -> x.handOf(1, 2, 3, 4, 0), 0);
        FifthCard held = told("trick cards 4 suits 1 hand 3 kept 1 she held");
        answered(held, "held: in any order, too", x -> x.handOf(3, 1, 2, -1, -1), 3);
        FifthCard stranger = told("trick cards 4 suits 1 hand 3 kept 1 stranger");
        answered(stranger, "0 1 2", x -> x.handOf(0, 1, 2, -1, -1), 0);
        answered(stranger, "0 2 1", x -> x.handOf(0, 2, 1, -1, -1), 2);
        answered(stranger, "3 2 1", x -> x.handOf(3, 2, 1, -1, -1), 23);
    }

    private static void handOfRefused() {
        sentence("promise 9", "NONE: 1 (no TRICK); 2 (no such CARDS)");
        withoutTrick("handOf", x -> x.handOf(0, 1, -1, -1, -1));
        withoutTrick("handOf of no CARDS", x -> x.handOf(-1, -1, -1, -1, -1));
        int[][] none = {{0, 4, -1, -1, -1}, {4, 0, -1, -1, -1}, {0, 0, -1, -1, -1}, {3, 3, -1, -1, -1}, {0, -1, -1, -1, -1},
            {-1, 0, -1, -1, -1}, {-1, -1, -1, -1, -1}, {0, 1, 2, -1, -1}, {0, 1, -1, 2, -1}, {0, 1, -1, -1, 0}, {0, 1, -2, -1, -1},
            {0, 1, -1, -1, -2}, {0, -1, 1, -1, -1}, {0, -2, -1, -1, -1}, {0, 33, -1, -1, -1}, {0, FAR, -1, -1, -1},
            {Integer.MIN_VALUE, 1, -1, -1, -1}, {0, 1, FAR, -1, -1}, {0, 1, -1, -1, Integer.MIN_VALUE}};
        for (int[] a : none) {
            refused(trick(), "handOf(" + a[0] + ", " + a[1] + ", " + a[2] + ", " + a[3] + ", " + a[4] + ")",
                x -> x.handOf(a[0], a[1], a[2], a[3], a[4]), 2);
        }
        FifthCard five = told("trick cards 12 suits 1 hand 5 kept 1 she");
        refused(five, "four of five", x -> x.handOf(0, 1, 2, 3, -1), 2);
        refused(five, "12 of 12", x -> x.handOf(0, 1, 2, 3, 12), 2);
        refused(five, "the first again at the last", x -> x.handOf(0, 1, 2, 3, 0), 2);
    }

    private static void row() {
        sentence("promise 10", "row(): The i-th CARD of a ROW. NONE: 1");
        withoutTrick("row(0, 0)", x -> x.row(0, 0));
        noSuch("ROW", ROWS, (x, n) -> x.row(n, 0));
        noSuch("CARD", 1, (x, n) -> x.row(0, n));
        answered(trick(), "the first", x -> x.row(0, 0), 0);
        answered(trick(), "the last", x -> x.row(ROWS - 1, 0), 3);
        FifthCard most = told("trick cards 12 suits 1 hand 5 kept 1 she tilts");
        answered(most, "the last of the most", x -> x.row(190079, 3), 8);
        refused(most, "none behind it", x -> x.row(190080, 3), 1);
        refused(most, "nor a fifth CARD", x -> x.row(190079, 4), 1);
    }

    private static void tilted() {
        sentence("promise 11", "tilted(): Places of a ROW that are tilted, as bits. NONE: 1");
        withoutTrick("tilted(0)", x -> x.tilted(0));
        noSuch("ROW", ROWS, (x, n) -> x.tilted(n));
        answered(trick(), "without tilts", x -> x.tilted(ROWS - 1), 0);
        FifthCard one = told(SMALL + " tilts");
        answered(one, "none", x -> x.tilted(6), 0);
        answered(one, "one", x -> x.tilted(7), 1);
        refused(one, "none behind the last", x -> x.tilted(8), 1);
        FifthCard four = told("trick cards 12 suits 1 hand 5 kept 1 she tilts");
        answered(four, "the first of four", x -> x.tilted(1), 1);
        answered(four, "the fourth of four", x -> x.tilted(8), 8);
        answered(four, "all four", x -> x.tilted(190079), 15);
        answered(four, "none of four", x -> x.tilted(16), 0);
    }

    private static void fits() {
        sentence("promise 12", "fits(): Whether a ROW FITS a HAND: 1, 0. NONE: 1");
        withoutTrick("fits(0, 0)", x -> x.fits(0, 0));
        noSuch("HAND", HANDS, (x, n) -> x.fits(n, 0));
        noSuch("ROW", ROWS, (x, n) -> x.fits(0, n));
        answered(trick(), "the first", x -> x.fits(0, 0), 1);
        answered(trick(), "the last", x -> x.fits(HANDS - 1, ROWS - 1), 1);
        answered(trick(), "the last ROW, the first HAND", x -> x.fits(0, ROWS - 1), 0);
        answered(trick(), "the first ROW, the last HAND", x -> x.fits(HANDS - 1, 0), 0);
    }

    private static void fitting() {
        sentence("promise 13", "fitting(): How many ROWS FIT a HAND. NONE: 1 (no TRICK)");
        withoutTrick("fitting()", x -> x.fitting());
        answered(trick(), "one of two", x -> x.fitting(), 2);
        answered(told("trick cards 12 suits 1 hand 5 kept 1 she tilts"), "the most", x -> x.fitting(), 1920);
        answered(told("trick cards 12 suits 1 hand 5 kept 2 she"), "three of five", x -> x.fitting(), 60);
        answered(told("trick cards 12 suits 1 hand 5 kept 2 she held"), "three of five, held", x -> x.fitting(), 10);
        answered(told("trick cards 6 suits 1 hand 5 kept 2 stranger tilts"), "three of five, a stranger, tilts", x -> x.fitting(), 80);
    }

    // ---- promises 14 to 24

    private static void lays() {
        sentence("promise 14", "lays(): The ROW that a RULE LAYS; -2 none. NONE: 1");
        withoutTrick("lays(0, 0)", x -> x.lays(0, 0));
        noSuch("RULE", RULES, (x, n) -> x.lays(n, 0));
        noSuch("HAND", HANDS, (x, n) -> x.lays(0, n));
        answered(trick(), "the first HAND", x -> x.lays(0, 0), 0);
        answered(trick(), "the last HAND", x -> x.lays(0, HANDS - 1), 2);
        answered(trick(), "none", x -> x.lays(0, 1), -2);
        answered(trick(), "none of a table", x -> x.lays(1, 0), -2);
        answered(trick(), "the last RULE", x -> x.lays(RULES - 1, 0), 0);
        refused(told(SMALL), "no RULES", x -> x.lays(0, 0), 1);
    }

    private static void keptCards() {
        sentence("promise 15", "kept(): The i-th CARD that a RULE keeps. NONE: 1 (RULE, HAND, i)");
        withoutTrick("kept(0, 0, 0)", x -> x.kept(0, 0, 0));
        noSuch("RULE", RULES, (x, n) -> x.kept(n, 0, 0));
        noSuch("HAND", HANDS, (x, n) -> x.kept(0, n, 0));
        noSuch("CARD", 1, (x, n) -> x.kept(0, 0, n));
        answered(trick(), "the first HAND", x -> x.kept(0, 0, 0), 1);
        answered(trick(), "the last HAND", x -> x.kept(0, HANDS - 1, 0), 3);
        FifthCard two = told("trick cards 12 suits 1 hand 5 kept 2 she;rule h keeps high tells place");
        answered(two, "the first of two", x -> x.kept(0, 791, 0), 7);
        answered(two, "the second of two", x -> x.kept(0, 791, 1), 11);
        refused(two, "no third", x -> x.kept(0, 791, 2), 1);
    }

    private static void keptLaysNone() {
        sentence("promise 15", "6 (it LAYS none)");
        refused(trick(), "suit", x -> x.kept(0, 1, 0), 6);
        refused(trick(), "table", x -> x.kept(1, 0, 0), 6);
        refused(trick(), "no such CARD is told first", x -> x.kept(0, 1, 1), 1);
        answered(trick(), "one that it LAYS", x -> x.kept(0, 0, 0), 1);
    }

    private static void says() {
        sentence("promise 16", "says(): The first HAND for which a RULE LAYS a ROW; -2 if there is none. NONE: 1");
        withoutTrick("says(0, 0)", x -> x.says(0, 0));
        noSuch("RULE", RULES, (x, n) -> x.says(n, 0));
        noSuch("ROW", ROWS, (x, n) -> x.says(0, n));
        answered(trick(), "the first HAND", x -> x.says(0, 0), 0);
        answered(trick(), "the last HAND", x -> x.says(0, 2), HANDS - 1);
        answered(trick(), "none", x -> x.says(0, 3), -2);
        answered(trick(), "none of a RULE that LAYS none", x -> x.says(1, 0), -2);
        // 3 is shown for 0 3, 1 3 and 2 3
        answered(trick(), "the first of three", x -> x.says(2, 3), 2);
    }

    private static void works() {
        sentence("promise 17", "works(): Whether a RULE WORKS: 1, 0. NONE: 1");
        withoutTrick("works(0)", x -> x.works(0));
        noSuch("RULE", RULES, (x, n) -> x.works(n));
        answered(trick(), "it doesn't", x -> x.works(RULES - 1), 0);
        answered(told(EIGHT + ";rule x keeps sum tells ring"), "it does", x -> x.works(0), 1);
    }

    private static void clash() {
        sentence("promise 18", "clash(): The first HAND that is laid like one ahead of it, or that one; -2 if there is none. NONE: 1");
        withoutTrick("clash(0, false)", x -> x.clash(0, false));
        withoutTrick("clash(0, true)", x -> x.clash(0, true));
        noSuch("RULE", RULES, (x, n) -> x.clash(n, false));
        noSuch("RULE, that one", RULES, (x, n) -> x.clash(n, true));
        answered(trick(), "the first", x -> x.clash(2, false), 3);
        answered(trick(), "that one", x -> x.clash(2, true), 1);
        answered(trick(), "none, though none is laid for four", x -> x.clash(0, false), -2);
        answered(trick(), "not that one, either", x -> x.clash(0, true), -2);
        answered(trick(), "none laid", x -> x.clash(1, false), -2);
        // keeps high shows 0 for 0 1 and for 0 2: the second HAND like the first
        FifthCard first = told(SMALL + ";rule h keeps high tells place");
        answered(first, "HAND 1", x -> x.clash(0, false), 1);
        answered(first, "like HAND 0", x -> x.clash(0, true), 0);
        // 2 3 is shown for 0 2 3 and for 1 2 3, the last
        FifthCard last = told("trick cards 4 suits 1 hand 3 kept 1 she held;rule l keeps low tells place");
        answered(last, "the last HAND", x -> x.clash(0, false), 3);
        answered(last, "like HAND 2", x -> x.clash(0, true), 2);
    }

    private static void laid() {
        sentence("promise 19", "laid(): How many unlike ROWS a RULE LAYS. NONE: 1");
        withoutTrick("laid(0)", x -> x.laid(0));
        noSuch("RULE", RULES, (x, n) -> x.laid(n));
        answered(trick(), "two", x -> x.laid(0), 2);
        answered(trick(), "none", x -> x.laid(1), 0);
        answered(trick(), "three for six HANDS", x -> x.laid(2), 3);
        answered(told(EIGHT + ";rule x keeps sum tells ring"), "all", x -> x.laid(0), 56);
    }

    /** All that a RULE LAYS, asked of an object anew for each 400 HANDS. */
    private static List<Integer> laysAll(String text) {
        List<Integer> all = new ArrayList<>();
        FifthCard x = told(text);
        int hands = x.hands();
        for (int h = 0; h < hands; h++) {
            x = h % 400 == 399 ? told(text) : x;
            all.add(x.lays(0, h));
        }
        return all;
    }

    private static void laidOfTheMost() {
        sentence("promises 16 to 20", "of the most HANDS there are");
        for (String head : new String[] {"trick cards 8 suits 1 hand 4 kept 1 stranger tilts", "trick cards 12 suits 2 hand 3 kept 1 stranger",
            "trick cards 12 suits 2 hand 5 kept 1 she tilts", "trick cards 12 suits 2 hand 5 kept 2 she"}) {
            for (String rule : new String[] {";rule r keeps sum tells gap", ";rule r keeps high tells place", ";rule r keeps low tells ring",
                ";rule r keeps mid tells rank", ";rule r suit"}) {
                List<Integer> all = laysAll(head + rule);
                Set<Integer> unlike = new HashSet<>();
                int clash = -2;
                for (int h = 0; h < all.size(); h++) {
                    if (all.get(h) >= 0 && !unlike.add(all.get(h)) && clash < 0) {
                        clash = h;
                    }
                }
                int fails = Collections.frequency(all, -2);
                FifthCard x = told(head + rule);
                due(head + rule + ": laid(0)", x.laid(0), unlike.size());
                due(head + rule + ": fails(0)", x.fails(0), fails);
                due(head + rule + ": clash(0, false)", x.clash(0, false), clash);
                due(head + rule + ": clash(0, true)", x.clash(0, true), clash < 0 ? -2 : all.indexOf(all.get(clash)));
                due(head + rule + ": works(0)", x.works(0), clash < 0 && fails == 0 ? 1 : 0);
                int last = all.get(all.size() - 1);
                due(head + rule + ": says of the last", x.says(0, last), last < 0 ? -1 : all.indexOf(last));
            }
        }
    }

    private static void fails() {
        sentence("promise 20", "fails(): How many HANDS a RULE LAYS none. NONE: 1");
        withoutTrick("fails(0)", x -> x.fails(0));
        noSuch("RULE", RULES, (x, n) -> x.fails(n));
        answered(trick(), "four", x -> x.fails(0), 4);
        answered(trick(), "all", x -> x.fails(1), HANDS);
        answered(trick(), "none", x -> x.fails(2), 0);
    }

    private static void seen() {
        sentence("promise 21", "seen(): SEEN: 1, 0. NONE: 1");
        withoutTrick("seen(0)", x -> x.seen(0));
        noSuch("RULE", RULES, (x, n) -> x.seen(n));
        answered(trick(), "1", x -> x.seen(RULES - 1), 1);
        answered(told(EIGHT + ";rule x keeps sum tells ring"), "0", x -> x.seen(0), 0);
    }

    private static void borne() {
        sentence("promise 22", "borne(): BORNE: 1, 0. NONE: 1");
        withoutTrick("borne(0)", x -> x.borne(0));
        noSuch("RULE", RULES, (x, n) -> x.borne(n));
        answered(trick(), "1", x -> x.borne(RULES - 1), 1);
        answered(told(EIGHT + ";rule x keeps sum tells ring"), "0", x -> x.borne(0), 0);
    }

    private static void wordsWork() {
        sentence("promise 23", "wordsWork(): Whether the RULE of WORDS (0 .. 19) WORKS: 1, 0. NONE: 1 (no TRICK); 2");
        withoutTrick("wordsWork(0)", x -> x.wordsWork(0));
        withoutTrick("wordsWork(20)", x -> x.wordsWork(20));
        for (int n : beyond(20)) {
            refused(trick(), "wordsWork(" + n + ")", x -> x.wordsWork(n), 2);
        }
        FifthCard x = told("trick cards 4 suits 1 hand 3 kept 1 she tilts");
        answered(x, "0", y -> y.wordsWork(0), 1);
        answered(x, "19", y -> y.wordsWork(19), 1);
        answered(trick(), "0 doesn't", y -> y.wordsWork(0), 0);
        answered(trick(), "19 doesn't", y -> y.wordsWork(19), 0);
        // no RULE has to be told
        answered(told(EIGHT), "18 of no RULES", y -> y.wordsWork(18), 1);
    }

    private static void shortest() {
        sentence("promise 24", "shortest(): The least WORDS that WORK; -2 if none do. NONE: 1 (no TRICK)");
        withoutTrick("shortest()", x -> x.shortest());
        answered(told("trick cards 4 suits 1 hand 3 kept 1 she tilts"), "the least of all", x -> x.shortest(), 0);
        answered(told(EIGHT), "18 alone", x -> x.shortest(), 18);
        answered(trick(), "none", x -> x.shortest(), -2);
    }

    // ---- promises 25 to 28

    private static void pairs() {
        sentence("promise 25", "pairs(): PAIRS. NONE: 1 (no TRICK)");
        withoutTrick("pairs()", x -> x.pairs());
        answered(trick(), "four of six", x -> x.pairs(), 4);
    }

    private static void table() {
        sentence("promise 26", "table(): The ROW of a HAND by the least TABLE; -2 if there is none. NONE: 1");
        withoutTrick("table(0)", x -> x.table(0));
        noSuch("HAND", HANDS, (x, n) -> x.table(n));
        answered(trick(), "none of the first", x -> x.table(0), -2);
        answered(trick(), "none of the last", x -> x.table(HANDS - 1), -2);
        // no RULE has to be told
        FifthCard x = told("trick cards 4 suits 1 hand 3 kept 1 she");
        answered(x, "the first", y -> y.table(0), 0);
        answered(x, "the last", y -> y.table(3), 4);
        refused(x, "none behind it", y -> y.table(4), 1);
    }

    private static void tableNoRoom() {
        sentence("promise 26", "3 (more than 300 HANDS)");
        FifthCard less = told("trick cards 10 suits 1 hand 5 kept 1 she");
        due("252 HANDS", less.hands(), 252);
        answered(less, "the first of 252", x -> x.table(0), 0);
        due("the last of 252 has a ROW that FITS", less.fits(251, less.table(251)), 1);
        refused(less, "none behind it", x -> x.table(252), 1);
        FifthCard more = told("trick cards 11 suits 1 hand 4 kept 1 she");
        due("330 HANDS", more.hands(), 330);
        refused(more, "the first of 330", x -> x.table(0), 3);
        refused(more, "the last of 330", x -> x.table(329), 3);
        refused(more, "none such is told first", x -> x.table(330), 1);
        refused(told("trick cards 8 suits 1 hand 3 kept 1 stranger"), "336 HANDS, though there is none", x -> x.table(0), 3);
        answered(told("trick cards 7 suits 1 hand 3 kept 1 stranger"), "210 HANDS, and there is none", x -> x.table(0), -2);
    }

    private static void count() {
        sentence("promise 27", "count(): .. -1: 1 (no TRICK); 2 (n from hand up to 200)");
        withoutTrick("count(5, false)", x -> x.count(5, false));
        withoutTrick("count(201, true)", x -> x.count(201, true));
        for (int n : new int[] {1, 0, -1, Integer.MIN_VALUE, 201, 202, FAR}) {
            refused(trick(), "HANDS of " + n, x -> x.count(n, false), 2);
            refused(trick(), "ROWS of " + n, x -> x.count(n, true), 2);
        }
        answered(trick(), "HANDS of 2", x -> x.count(2, false), 1);
        answered(trick(), "ROWS of 2", x -> x.count(2, true), 2);
        answered(trick(), "HANDS of 200", x -> x.count(200, false), 19900);
        answered(trick(), "ROWS of 200", x -> x.count(200, true), 200);
        for (int hand = 2; hand <= 5; hand++) {
            int size = hand;
            FifthCard x = told("trick cards 12 suits 1 hand " + hand + " kept 1 she");
            answered(x, "hand " + hand, y -> y.count(size, false), 1);
            refused(x, "less than hand " + hand, y -> y.count(size - 1, false), 2);
        }
        // beyond an int
        answered(told("trick cards 6 suits 1 hand 5 kept 2 stranger"), "the most", x -> x.count(200, false), 304278004800L);
    }

    private static void most() {
        sentence("promise 28", "most(): MOST; -2 if there is none (from hand on). NONE: 1 (no TRICK)");
        withoutTrick("most()", x -> x.most());
        answered(trick(), "3", x -> x.most(), 3);
        answered(told("trick cards 4 suits 1 hand 3 kept 1 stranger"), "as many as a hand", x -> x.most(), 3);
        answered(told("trick cards 4 suits 1 hand 3 kept 2 stranger"), "none", x -> x.most(), -2);
        answered(told("trick cards 12 suits 1 hand 5 kept 1 she tilts"), "200", x -> x.most(), 200);
    }

    // ---- promises 29 to 37

    private static void judge() {
        sentence("promise 29", "judge(): Whether the ROW of an EVENING FITS its HAND: 1, 0. NONE: 1");
        withoutTrick("judge(0)", x -> x.judge(0));
        noSuch("EVENING", EVENINGS + 2, (x, n) -> x.judge(n));
        answered(trick(), "the first doesn't", x -> x.judge(0), 0);
        answered(trick(), "the last does", x -> x.judge(EVENINGS + 1), 1);
        refused(told(SMALL), "no EVENINGS", x -> x.judge(0), 1);
    }

    private static void evening() {
        sentence("promise 30", "evening(): Of an EVENING its HAND, or its ROW. NONE: 1");
        withoutTrick("evening(0, false)", x -> x.evening(0, false));
        noSuch("EVENING", EVENINGS + 2, (x, n) -> x.evening(n, false));
        noSuch("EVENING, its ROW", EVENINGS + 2, (x, n) -> x.evening(n, true));
        answered(trick(), "HAND of the first", x -> x.evening(0, false), 2);
        answered(trick(), "ROW of the first", x -> x.evening(0, true), 2);
        answered(trick(), "HAND of the last", x -> x.evening(EVENINGS + 1, false), 1);
        answered(trick(), "ROW of the last", x -> x.evening(EVENINGS + 1, true), 2);
        FifthCard most = told("trick cards 12 suits 1 hand 5 kept 1 she tilts;evening 7,8,9,10,11 shows 11,10,9,8 tilted 0,1,2,3");
        answered(most, "the last HAND", x -> x.evening(0, false), 791);
        answered(most, "the last ROW", x -> x.evening(0, true), 190079);
    }

    private static void agrees() {
        sentence("promise 31", "agrees(): How many EVENINGS AGREE with a RULE. NONE: 1");
        withoutTrick("agrees(0)", x -> x.agrees(0));
        noSuch("RULE", RULES, (x, n) -> x.agrees(n));
        answered(trick(), "one of four", x -> x.agrees(0), 1);
        answered(trick(), "none: it LAYS none", x -> x.agrees(1), 0);
        answered(told(SMALL + ";rule s suit"), "of no EVENINGS", x -> x.agrees(0), 0);
        FifthCard all = full();
        answered(all, "all of 20", x -> x.agrees(0), 20);
    }

    private static void wrong() {
        sentence("promise 32", "wrong(): The first EVENING that doesn't AGREE; -2 if all do. NONE: 1");
        withoutTrick("wrong(0)", x -> x.wrong(0));
        noSuch("RULE", RULES, (x, n) -> x.wrong(n));
        answered(trick(), "the first", x -> x.wrong(0), 0);
        answered(told(SMALL + ";rule s suit"), "of no EVENINGS", x -> x.wrong(0), -2);
        answered(full(), "all of 20 do", x -> x.wrong(0), -2);
        FifthCard last = told(SMALL + ";rule w keeps high tells place;rule z keeps low tells place");
        for (int e = 0; e < 19; e++) {
            last.shows(0, 0);
        }
        last.shows(1, 0);
        answered(last, "the last of 20", x -> x.wrong(0), 19);
        answered(last, "the first of 20", x -> x.wrong(1), 0);
    }

    private static void found() {
        sentence("promise 33", "found(): RULES with which all EVENINGS AGREE, as bits. NONE: 1 (no TRICK)");
        withoutTrick("found()", x -> x.found());
        answered(trick(), "none", x -> x.found(), 0);
        answered(told(SMALL + FOUR_RULES), "all four without EVENINGS", x -> x.found(), 15);
        answered(told(SMALL), "no RULES", x -> x.found(), 0);
        answered(told(SMALL + FOUR_RULES + ";evening 0,1 shows 0"), "the first and the last", x -> x.found(), 9);
        answered(told(SMALL + FOUR_RULES + ";evening 0,1 shows 1"), "the third", x -> x.found(), 4);
    }

    private static void apart() {
        sentence("promise 34", "apart(): APART. NONE: 1 (RULES, unlike)");
        withoutTrick("apart(0, 1)", x -> x.apart(0, 1));
        noSuch("RULE", RULES, (x, n) -> x.apart(n, 0));
        noSuch("other RULE", RULES, (x, n) -> x.apart(0, n));
        for (int rule = 0; rule < RULES; rule++) {
            int same = rule;
            refused(trick(), "the same " + rule, x -> x.apart(same, same), 1);
        }
        answered(trick(), "the first and the last", x -> x.apart(0, RULES - 1), 4);
        answered(trick(), "the last and the first", x -> x.apart(RULES - 1, 0), 4);
        int[][] all = {{0, 2, 6, 4}, {2, 0, 6, 6}, {6, 6, 0, 4}, {4, 6, 4, 0}};
        FifthCard one = trick();
        for (int rule = 0; rule < RULES; rule++) {
            for (int other = 0; other < RULES; other++) {
                if (rule != other) {
                    due(rule + " and " + other, one.apart(rule, other), all[rule][other]);
                }
            }
        }
        answered(told(SMALL + ";rule a suit;rule b suit"), "never", x -> x.apart(0, 1), 0);
        refused(told(SMALL + ";rule a suit"), "one RULE", x -> x.apart(0, 1), 1);
    }

    private static void mean() {
        sentence("promise 35", "mean(): MEAN in lowest terms, the upper WHOLE or the lower. NONE: 1 (RULES, unlike)");
        withoutTrick("mean(0, 1, false)", x -> x.mean(0, 1, false));
        noSuch("RULE", RULES, (x, n) -> x.mean(n, 0, false));
        noSuch("other RULE", RULES, (x, n) -> x.mean(0, n, true));
        refused(trick(), "the same", x -> x.mean(2, 2, true), 1);
        answered(trick(), "6 by 4, the upper", x -> x.mean(0, RULES - 1, false), 3);
        answered(trick(), "6 by 4, the lower", x -> x.mean(0, RULES - 1, true), 2);
        answered(trick(), "6 by 6, the upper", x -> x.mean(1, 2, false), 1);
        answered(trick(), "6 by 6, the lower", x -> x.mean(1, 2, true), 1);
        // one HAND of 6: {0, 1}, by place tilted and by ring not
        FifthCard x = told(SMALL + " tilts;rule a keeps high tells place;rule b keeps high tells ring");
        answered(x, "6 by 1, the upper", y -> y.mean(0, 1, false), 6);
        answered(x, "6 by 1, the lower", y -> y.mean(0, 1, true), 1);
    }

    private static void meanNone() {
        sentence("promise 35", "6 (APART is 0)");
        FifthCard x = told(SMALL + ";rule a suit;rule b suit");
        refused(x, "the upper", y -> y.mean(0, 1, false), 6);
        refused(x, "the lower", y -> y.mean(1, 0, true), 6);
        refused(x, "the same RULE is told first", y -> y.mean(1, 1, true), 1);
        // both LAY none at all
        refused(told(SMALL + " held;rule a suit;rule b table"), "none laid", y -> y.mean(0, 1, true), 6);
    }

    private static void hardestFirst() {
        sentence("promise 36", "hardest(): .. whose least APART from another one is least, the first such");
        // suit and table are 2 apart, all others more
        answered(told(SMALL + FOUR_RULES), "the first of two", x -> x.hardest(), 0);
        answered(told(SMALL + ";rule w keeps low tells place;rule t table;rule s suit"), "the second", x -> x.hardest(), 1);
        answered(told(SMALL + ";rule w keeps low tells place;rule t table;rule a suit;rule b suit"), "the third", x -> x.hardest(), 2);
        answered(told(SMALL + ";rule a suit;rule w keeps low tells place;rule t table;rule b suit"), "the first and the last",
            x -> x.hardest(), 0);
        answered(told(SMALL + ";rule a table;rule w keeps low tells place"), "two", x -> x.hardest(), 0);
        // all HANDS apart: still the first
        answered(told(SMALL + ";rule a keeps high tells place;rule b keeps low tells place"), "all apart", x -> x.hardest(), 0);
    }

    private static void hardestRefused() {
        sentence("promise 36", "NONE: 1 (no TRICK); 6 (fewer than two)");
        withoutTrick("hardest()", x -> x.hardest());
        refused(told(SMALL), "no RULES", x -> x.hardest(), 6);
        refused(told(SMALL + ";rule a suit"), "one RULE", x -> x.hardest(), 6);
        answered(told(SMALL + ";rule a suit;rule b suit"), "two RULES", x -> x.hardest(), 0);
    }

    /** With 20 EVENINGS, by its first RULE; the second LAYS none. */
    private static FifthCard full() {
        FifthCard x = told(SMALL + ";rule w keeps high tells place;rule t table" + ";evening 0,1 shows 0".repeat(9));
        for (int e = 9; e < 20; e++) {
            due("an EVENING more", x.shows(0, e % HANDS), e);
        }
        return x;
    }

    private static void showsOneMore() {
        sentence("promise 37", "shows(): An EVENING more, as a RULE LAYS: its number");
        FifthCard x = told(SMALL + FOUR_RULES);
        answered(x, "the first", y -> y.shows(0, HANDS - 1), 0);
        answered(x, "the second", y -> y.shows(RULES - 1, 0), 1);
        due("how many", x.size(8), 2);
        due("the first: HAND", x.evening(0, false), HANDS - 1);
        due("the first: ROW", x.evening(0, true), 2);
        due("the second: HAND", x.evening(1, false), 0);
        due("the second: ROW", x.evening(1, true), 0);
        FifthCard full = full();
        due("20 of them", full.size(8), 20);
        due("the last: HAND", full.evening(19, false), 19 % HANDS);
    }

    private static void showsRefused() {
        sentence("promise 37", "NONE: 1; 6 (it LAYS none)");
        withoutTrick("shows(0, 0)", x -> x.shows(0, 0));
        noSuch("RULE", RULES, (x, n) -> x.shows(n, 0));
        noSuch("HAND", HANDS, (x, n) -> x.shows(0, n));
        refused(trick(), "suit LAYS none", x -> x.shows(0, 1), 6);
        refused(trick(), "table LAYS none", x -> x.shows(1, 0), 6);
    }

    private static void showsNoRoom() {
        sentence("promise 37", "3 (20 are)");
        refused(full(), "one more", x -> x.shows(0, 0), 3);
        refused(full(), "that it LAYS none is told first", x -> x.shows(1, 0), 6);
        refused(full(), "that there is none such is told first", x -> x.shows(0, HANDS), 1);
        FifthCard x = full();
        x.strike();
        answered(x, "room again", y -> y.shows(0, 5), 19);
    }

    // ---- promises 38 to 42

    private static void seed() {
        sentence("promise 38", "seed(): SEED: true; false: 1 (no TRICK); 2 (0 .. 65,536)");
        for (int v : new int[] {0, 1, 65535, 65536}) {
            FifthCard x = trick();
            granted(x, "seed(" + v + ")", y -> y.seed(v));
            due("it is " + v, x.size(9), v);
        }
        for (int v : beyond(65537)) {
            denied(trick(), "seed(" + v + ")", y -> y.seed(v), 2);
        }
        denied(new FifthCard(), "seed(0) without a TRICK", y -> y.seed(0), 1);
        denied(new FifthCard(), "seed(-1) without a TRICK", y -> y.seed(-1), 1);
    }

    private static void drawRound() {
        sentence("promise 39", "SEED becomes (75 times SEED and 74) mod 65,537");
        // 873 is the first that goes round, to 65,549 less 65,537
        int[][] seeds = {{0, 74}, {872, 65474}, {873, 12}, {65535, 65461}, {65536, 65536}};
        for (int[] seed : seeds) {
            FifthCard x = trick();
            x.seed(seed[0]);
            due("a HAND of " + seed[0], x.draw(), seed[1] % HANDS);
            due("SEED behind " + seed[0], x.size(9), seed[1]);
        }
    }

    private static void drawHand() {
        sentence("promise 39", "draw(): A HAND by a draw: .. that mod HANDS");
        FifthCard one = told("trick cards 4 suits 1 hand 4 kept 1 she");
        answered(one, "one HAND", x -> x.draw(), 0);
        due("SEED goes on", one.size(9), 74);
        FifthCard most = told("trick cards 8 suits 1 hand 4 kept 1 stranger");
        answered(most, "74 of 1,680", x -> x.draw(), 74);
        answered(most, "5,624 of 1,680", x -> x.draw(), 584);
        FifthCard six = told(SMALL);
        answered(six, "74 of 6", x -> x.draw(), 2);
    }

    private static void drawRefused() {
        sentence("promise 39", "NONE: 1 (no TRICK)");
        withoutTrick("draw()", x -> x.draw());
    }

    private static void strike() {
        sentence("promise 40", "strike(): The latest EVENING goes: true");
        FifthCard x = told(SMALL + FOUR_RULES + ";evening 0,3 shows 2;evening 0,1 shows 0");
        granted(x, "the second", y -> y.strike());
        due("one is left", x.size(8), 1);
        due("the first", x.evening(0, false), 2);
        refused(x, "the second is gone", y -> y.evening(1, false), 1);
        granted(x, "the first", y -> y.strike());
        due("none is left", x.size(8), 0);
        FifthCard full = full();
        for (int e = 19; e >= 0; e--) {
            due("one of 20", full.strike(), true);
            due("so many are left", full.size(8), e);
        }
    }

    private static void strikeRefused() {
        sentence("promise 40", "false: 6");
        denied(new FifthCard(), "without a TRICK", x -> x.strike(), 6);
        denied(told(SMALL), "without EVENINGS", x -> x.strike(), 6);
        FifthCard x = told(SMALL + ";evening 0,1 shows 0");
        x.strike();
        denied(x, "without one left", y -> y.strike(), 6);
    }

    private static void image() {
        sentence("promise 41", "image(): An IMAGE: its number");
        FifthCard x = told(SMALL);
        for (int image = 0; image < 3; image++) {
            int number = image;
            answered(x, "image()", y -> y.image(), number);
        }
        due("size(10)", x.size(10), 3);
    }

    private static void imageRefused() {
        sentence("promise 41", "NONE: 1 (no TRICK); 3");
        withoutTrick("image()", x -> x.image());
        FifthCard x = trick();
        x.image();
        x.image();
        x.strike();
        x.seed(99);
        refused(x, "a fourth", y -> y.image(), 3);
        due("the first", x.back(0), true);
        due("the first's EVENINGS", x.size(8), EVENINGS);
        due("the first's SEED", x.size(9), 7);
        due("the third", x.back(2), true);
        due("the third's EVENINGS", x.size(8), EVENINGS + 2);
        due("the third's SEED", x.size(9), 599);
        refused(x, "a fourth, still", y -> y.image(), 3);
    }

    private static void back() {
        sentence("promise 42", "back(): EVENINGS, SEED are as by an IMAGE (all IMAGES stay): true");
        FifthCard x = told(SMALL + ";rule w keeps high tells place");
        x.seed(10);
        x.image();
        x.shows(0, 1);
        x.seed(11);
        x.image();
        x.shows(0, 2);
        x.seed(12);
        x.image();
        int[] order = {2, 0, 1, 0, 2};
        for (int image : order) {
            granted(x, "back(" + image + ")", y -> y.back(image));
            due("EVENINGS of " + image, x.size(8), image);
            due("SEED of " + image, x.size(9), 10 + image);
            due("all IMAGES stay", x.size(10), 3);
            for (int e = 0; e < image; e++) {
                due("HAND of " + e, x.evening(e, false), e + 1);
            }
            // what comes behind doesn't reach the IMAGE
            x.strike();
            x.shows(0, 5);
            x.seed(0);
        }
        due("the RULES stay", x.size(7), 1);
    }

    private static void backRefused() {
        sentence("promise 42", "false: 1");
        for (int image : beyond(1)) {
            denied(trick(), "back(" + image + ") of one", x -> x.back(image), 1);
        }
        denied(told(SMALL), "back(0) of none", x -> x.back(0), 1);
        denied(new FifthCard(), "back(0) without a TRICK", x -> x.back(0), 1);
        FifthCard three = trick();
        three.image();
        three.image();
        granted(three, "back(2) of three", x -> x.back(2));
        denied(three, "back(3) of three", x -> x.back(3), 1);
    }

    // ---- promises 43 to 46

    private static void led() {
        sentence("promise 43", "led(): The i-th HAND that a RULE LAYS none");
        FifthCard x = trick();
        for (int i = 0; i < 4; i++) {
            due("of suit", x.led(0, i), i + 1);
        }
        for (int i = 0; i < HANDS; i++) {
            due("of table", x.led(1, i), i);
        }
        FifthCard many = told("trick cards 8 suits 1 hand 4 kept 1 stranger;rule s suit");
        due("the last of many", many.led(0, 1679), 1679);
    }

    private static void ledThrows() {
        sentence("promise 43", "NoSuchElementException if there is none such (RULE, i)");
        for (int i : beyond(4)) {
            throwing(trick(), 0, i);
        }
        for (int rule : beyond(RULES)) {
            throwing(trick(), rule, 0);
        }
        throwing(trick(), 2, 0);
        throwing(trick(), 1, HANDS);
        throwing(told(SMALL), 0, 0);
        throwing(new FifthCard(), 0, 0);
        throwing(told("trick cards 8 suits 1 hand 4 kept 1 stranger;rule s suit"), 0, 1680);
    }

    private static void throwing(FifthCard x, int rule, int i) {
        String what = "led(" + rule + ", " + i + ")";
        String before = state(x);
        x.count(-1, true);
        int trouble = x.trouble();
        boolean thrown = false;
        try {
            x.led(rule, i);
        } catch (NoSuchElementException e) {
            thrown = true;
        }
        due(what + " throws", thrown, true);
        due(what + ": trouble() is as it was", x.trouble(), trouble);
        same(what + ": what stays", state(x), before);
    }

    private static void size() {
        sentence("promise 44", "size(): 0 CARDS, 1 suits, .. 11 bytes of THE TAPE");
        sizes(trick(), 4, 2, 2, 1, 0, 0, 0, 4, 4, 599, 1, 20);
        sizes(told("trick cards 12 suits 4 hand 5 kept 2 she held tilts;rule a suit;evening 0,1,2,3,4 shows 0,1,2"),
            12, 4, 5, 2, 0, 1, 1, 1, 1, 0, 0, 0);
        sizes(told("trick cards 4 suits 1 hand 3 kept 2 stranger"), 4, 1, 3, 2, 1, 0, 0, 0, 0, 0, 0, 0);
        FifthCard full = full();
        full.image();
        full.image();
        full.image();
        full.seed(65536);
        for (int i = 0; i < 46; i++) {
            full.feed(0, 0, 0, 0, 0);
        }
        sizes(full, 4, 2, 2, 1, 0, 0, 0, 2, 20, 65536, 3, 900);
        // nothing of the TRICK before is left
        FifthCard again = told("trick cards 12 suits 4 hand 5 kept 2 she held tilts;rule a suit;evening 0,1,2,3,4 shows 0,1,2");
        tell(again, SMALL);
        sizes(again, 4, 2, 2, 1, 0, 0, 0, 0, 0, 0, 0, 0);
    }

    private static void sizes(FifthCard x, int... due) {
        for (int what = 0; what < due.length; what++) {
            due("size(" + what + ")", x.size(what), due[what]);
        }
    }

    private static void sizeNone() {
        sentence("promise 44", "NONE for others; 0 for what there isn't");
        for (int what : beyond(12)) {
            FifthCard x = trick();
            x.count(0, true);
            due("size(" + what + ")", x.size(what), -1);
            due("size(" + what + "): trouble() is as it was", x.trouble(), 2);
        }
        FifthCard x = new FifthCard();
        x.feed(0, 0, 0, 0, 0);
        due("bytes without a TRICK", x.size(11), 20);
        due("CARDS without a TRICK", x.size(0), 0);
        due("suits without a TRICK", x.size(1), 0);
    }

    private static void words() {
        sentence("promise 45", "words(): Of a RULE: 20 suit, 21 table, else its WORDS. NONE for none such");
        FifthCard x = told(SMALL + ";rule s suit;rule t table;rule l keeps low tells place;rule h keeps sum tells sum");
        due("suit", x.words(0), 20);
        due("table", x.words(1), 21);
        due("the least WORDS", x.words(2), 0);
        due("the greatest WORDS", x.words(3), 19);
        for (int rule : beyond(4)) {
            x.count(0, true);
            due("words(" + rule + ")", x.words(rule), -1);
            due("words(" + rule + "): trouble() is as it was", x.trouble(), 2);
        }
        tell(x, SMALL + ";rule s suit");
        due("the first of one", x.words(0), 20);
        due("no second of one", x.words(1), -1);
    }

    private static void troubleNumbers() {
        sentence("term IV", "0 it wasn't; 1 there is none such; 2 a number; 3 no room; 4 a FAULT; .. 6 there is none");
        FifthCard x = told(SMALL + ";rule s suit");
        due("0", x.trouble(), 0);
        x.hand(HANDS, 0);
        due("1", x.trouble(), 1);
        x.count(201, true);
        due("2", x.trouble(), 2);
        x.image();
        x.image();
        x.image();
        x.image();
        due("3", x.trouble(), 3);
        x.trick(0);
        due("4", x.trouble(), 4);
        x.kept(0, 1, 0);
        due("6", x.trouble(), 6);
        due("asking leaves it", x.trouble(), 6);
    }

    /** All calls of which a number is told, so that they aren't refused. */
    private static void troubleOfTheLatest() {
        sentence("promise 46", "TROUBLE of the latest call that may be refused: 0 it wasn't");
        FifthCard x = told(SMALL + FOUR_RULES + ";evening 0,1 shows 0");
        x.image();
        zero(x, "hands", y -> y.hands());
        zero(x, "rows", y -> y.rows());
        zero(x, "hand", y -> y.hand(0, 0));
        zero(x, "handOf", y -> y.handOf(0, 1, -1, -1, -1));
        zero(x, "row", y -> y.row(0, 0));
        zero(x, "tilted", y -> y.tilted(0));
        zero(x, "fits", y -> y.fits(0, 0));
        zero(x, "fitting", y -> y.fitting());
        zero(x, "lays", y -> y.lays(0, 0));
        zero(x, "kept", y -> y.kept(0, 0, 0));
        zero(x, "says", y -> y.says(0, 0));
        zero(x, "works", y -> y.works(0));
        zero(x, "clash", y -> y.clash(0, true));
        zero(x, "laid", y -> y.laid(0));
        zero(x, "fails", y -> y.fails(0));
        zero(x, "seen", y -> y.seen(0));
        zero(x, "borne", y -> y.borne(0));
        zero(x, "wordsWork", y -> y.wordsWork(0));
        zero(x, "shortest", y -> y.shortest());
        zero(x, "pairs", y -> y.pairs());
        zero(x, "table", y -> y.table(0));
        zero(x, "count", y -> y.count(4, true));
        zero(x, "most", y -> y.most());
        zero(x, "judge", y -> y.judge(0));
        zero(x, "evening", y -> y.evening(0, true));
        zero(x, "agrees", y -> y.agrees(0));
        zero(x, "wrong", y -> y.wrong(0));
        zero(x, "found", y -> y.found());
        zero(x, "apart", y -> y.apart(0, 1));
        zero(x, "mean", y -> y.mean(0, 1, true));
        zero(x, "hardest", y -> y.hardest());
        zero(x, "shows", y -> y.shows(0, 0));
        zero(x, "seed", y -> y.seed(0));
        zero(x, "draw", y -> y.draw());
        zero(x, "strike", y -> y.strike());
        zero(x, "image", y -> y.image());
        zero(x, "back", y -> y.back(0));
        put(x, SMALL);
        zero(x, "trick", y -> y.trick(39));
    }

    private static void zero(FifthCard x, String what, Consumer<FifthCard> call) {
        x.hand(-1, -1);
        due(what + ": trouble() ahead", x.trouble(), 1);
        call.accept(x);
        due(what + ": trouble()", x.trouble(), 0);
    }

    /** Calls of which no number is told. */
    private static List<Consumer<FifthCard>> unrefused() {
        return List.of(x -> x.feed(0, 0, 0, 0, 0), x -> x.fault(), x -> x.where(), x -> x.size(0), x -> x.size(12),
            x -> x.words(0), x -> x.words(4), x -> x.trouble(), x -> lead(x));
    }

    private static void lead(FifthCard x) {
        try {
            x.led(0, 0);
        } catch (NoSuchElementException e) {
            // that it throws is tested elsewhere
        }
    }

    private static void troubleOthersLeaveIt() {
        sentence("term IV", "TROUBLE of the latest call that may be refused (those of which a number is told here)");
        FifthCard x = trick();
        for (Consumer<FifthCard> other : unrefused()) {
            x.count(0, true);
            other.accept(x);
            due("refused before", x.trouble(), 2);
            x.hands();
            other.accept(x);
            due("not refused before", x.trouble(), 0);
        }
    }

    private static void calls512() {
        sentence("What it is", "An object is used for at most 512 calls after it has been made");
        FifthCard x = new FifthCard();
        int calls = 0;
        while (calls + 5 <= 511) {
            put(x, SMALL + ";");
            due("a TRICK", x.trick(39), 0);
            due("hands()", x.hands(), HANDS);
            due("draw()", x.draw(), 2);
            calls += 5;
        }
        while (calls < 511) {
            x.draw();
            calls++;
        }
        due("the 512th", x.hands(), HANDS);
    }
}
