import java.util.Arrays;
import java.util.NoSuchElementException;

/**
 * Four cards say the fifth: a trick told as a text, the rows that its rules lay for hands,
 * whether they tell the cards kept back, and the evenings at which they were seen.
 * The words in capitals are those of the document.
 */
public final class FifthCard {
    public static final int NONE = -1;

    /** The answer -2: there is none, though the call isn't refused. */
    private static final int NOTHING = -2;

    private static final int TAPE_ROOM = 900;
    private static final int FEED_BYTES = 20;
    private static final int HAND_ROOM = 2000;
    private static final int TABLE_ROOM = 300;
    private static final int RULE_ROOM = 4;
    private static final int TOLD_EVENINGS = 9;
    private static final int EVENING_ROOM = 20;
    private static final int IMAGE_ROOM = 3;
    private static final int LARGEST_HAND = 5;
    private static final int LARGEST_DECK = 200;
    private static final int LAST_SEED = 65536;

    /** WORDS are 0 .. 19; the two other kinds of rules are numbered behind them. */
    private static final int TELLS = 5;
    private static final int WORDS_ROOM = 20;
    private static final int SUIT = 20;
    private static final int TABLE = 21;

    /** TROUBLE. */
    private static final int NO_SUCH = 1;
    private static final int BAD_NUMBER = 2;
    private static final int NO_ROOM = 3;
    private static final int FAULTY = 4;
    private static final int EMPTY = 6;

    private final byte[] tape = new byte[TAPE_ROOM];
    private int tapeLength;
    private final Reader reader = new Reader();
    /** The TRICK, and the room into which the next one is read, so that a FAULT leaves the TRICK alone. */
    private Told told = new Told();
    private Told spare = new Told();
    private final Ledger ledger = new Ledger();
    private final Diary[] images = {new Diary(), new Diary(), new Diary()};
    private int imageCount;
    private int lastTrouble;
    private int lastFault;
    private int faultPlace;
    private final int[] five = new int[LARGEST_HAND];

    public FifthCard() {
    }

    // ---- the trick

    public int feed(int a, int b, int c, int d, int e) {
        if (tapeLength + FEED_BYTES > TAPE_ROOM) {
            return NONE;
        }
        putBytes(a);
        putBytes(b);
        putBytes(c);
        putBytes(d);
        putBytes(e);
        return tapeLength;
    }

    private void putBytes(int number) {
        for (int shift = 24; shift >= 0; shift -= 8) {
            tape[tapeLength] = (byte) (number >> shift);
            tapeLength++;
        }
    }

    public int trick(int n) {
        if (n < 0 || n > tapeLength) {
            return refuse(BAD_NUMBER);
        }
        tapeLength = 0;
        boolean sound = reader.readText(tape, n, spare);
        lastFault = reader.faultNumber;
        faultPlace = reader.faultPlace;
        if (!sound) {
            return refuse(FAULTY);
        }
        Told old = told;
        told = spare;
        spare = old;
        imageCount = 0;
        ledger.begin(told);
        return answer(told.ruleCount);
    }

    public int fault() {
        return lastFault;
    }

    public int where() {
        return lastTrouble == FAULTY ? faultPlace : NONE;
    }

    // ---- hands, rows

    public int hands() {
        if (!told.begun) {
            return refuse(NO_SUCH);
        }
        return answer(told.deck.handCount);
    }

    public int rows() {
        if (!told.begun) {
            return refuse(NO_SUCH);
        }
        return answer(told.deck.rowCount);
    }

    public int hand(int h, int i) {
        if (noHand(h) || i < 0 || i >= told.deck.handSize) {
            return refuse(NO_SUCH);
        }
        return answer(Deck.cardAt(ledger.hands[h], i));
    }

    public int handOf(int a, int b, int c, int d, int e) {
        if (!told.begun) {
            return refuse(NO_SUCH);
        }
        five[0] = a;
        five[1] = b;
        five[2] = c;
        five[3] = d;
        five[4] = e;
        if (!told.deck.isHand(five)) {
            return refuse(BAD_NUMBER);
        }
        return answer(told.deck.handNumber(five));
    }

    public int row(int r, int i) {
        if (noRow(r) || i < 0 || i >= told.deck.shownSize) {
            return refuse(NO_SUCH);
        }
        told.deck.unpackRow(r, five);
        return answer(five[i]);
    }

    public int tilted(int r) {
        if (noRow(r)) {
            return refuse(NO_SUCH);
        }
        return answer(r % told.deck.tiltSets);
    }

    public int fits(int h, int r) {
        if (noHand(h) || noRow(r)) {
            return refuse(NO_SUCH);
        }
        return answerWhether(fitsHand(h, r));
    }

    private boolean fitsHand(int h, int r) {
        told.deck.unpackRow(r, five);
        return told.deck.isShownOf(five, ledger.hands[h]);
    }

    public int fitting() {
        if (!told.begun) {
            return refuse(NO_SUCH);
        }
        return answer(told.deck.waysToShow());
    }

    // ---- rules

    public int lays(int rule, int h) {
        if (noRule(rule) || noHand(h)) {
            return refuse(NO_SUCH);
        }
        return answer(ledger.laidBy(rule).rows[h]);
    }

    public int kept(int rule, int h, int i) {
        if (noRule(rule) || noHand(h) || i < 0 || i >= told.deck.keptSize) {
            return refuse(NO_SUCH);
        }
        int row = ledger.laidBy(rule).rows[h];
        if (row < 0) {
            return refuse(EMPTY);
        }
        told.deck.unpackRow(row, five);
        return answer(told.deck.keptCard(five, ledger.hands[h], i));
    }

    public int says(int rule, int r) {
        if (noRule(rule) || noRow(r)) {
            return refuse(NO_SUCH);
        }
        return answer(ledger.firstLaid(ledger.laidBy(rule), r));
    }

    public int works(int rule) {
        if (noRule(rule)) {
            return refuse(NO_SUCH);
        }
        Laid laid = ledger.laidBy(rule);
        return answerWhether(laid.failCount == 0 && laid.clashHand < 0);
    }

    public int clash(int rule, boolean ahead) {
        if (noRule(rule)) {
            return refuse(NO_SUCH);
        }
        Laid laid = ledger.laidBy(rule);
        return answer(ahead ? laid.clashAhead : laid.clashHand);
    }

    public int laid(int rule) {
        if (noRule(rule)) {
            return refuse(NO_SUCH);
        }
        return answer(ledger.laidBy(rule).unlikeCount);
    }

    public int fails(int rule) {
        if (noRule(rule)) {
            return refuse(NO_SUCH);
        }
        return answer(ledger.laidBy(rule).failCount);
    }

    public int seen(int rule) {
        if (noRule(rule)) {
            return refuse(NO_SUCH);
        }
        return answerWhether(ledger.swapsJudged(ledger.laidBy(rule)).seen);
    }

    public int borne(int rule) {
        if (noRule(rule)) {
            return refuse(NO_SUCH);
        }
        return answerWhether(ledger.swapsJudged(ledger.laidBy(rule)).borne);
    }

    public int wordsWork(int words) {
        if (!told.begun) {
            return refuse(NO_SUCH);
        }
        if (words < 0 || words >= WORDS_ROOM) {
            return refuse(BAD_NUMBER);
        }
        return answerWhether(ledger.doWordsWork(words));
    }

    public int shortest() {
        if (!told.begun) {
            return refuse(NO_SUCH);
        }
        for (int words = 0; words < WORDS_ROOM; words++) {
            if (ledger.doWordsWork(words)) {
                return answer(words);
            }
        }
        return answer(NOTHING);
    }

    // ---- any rule

    /**
     * HANDS and the ROWS that FIT any are changed into one another by changing the cards about, so
     * that each HAND has equally many ROWS and each such ROW equally many HANDS: then all of the
     * fewer can be paired.
     */
    public int pairs() {
        if (!told.begun) {
            return refuse(NO_SUCH);
        }
        Deck deck = told.deck;
        return answer((int) Math.min(deck.handsOf(deck.cards), deck.rowsOf(deck.cards)));
    }

    public int table(int h) {
        if (noHand(h)) {
            return refuse(NO_SUCH);
        }
        if (told.deck.handCount > TABLE_ROOM) {
            return refuse(NO_ROOM);
        }
        ledger.readyTable();
        return answer(ledger.tableRow(h));
    }

    public long count(int n, boolean rows) {
        if (!told.begun) {
            return refuse(NO_SUCH);
        }
        if (n < told.deck.handSize || n > LARGEST_DECK) {
            return refuse(BAD_NUMBER);
        }
        lastTrouble = 0;
        return rows ? told.deck.rowsOf(n) : told.deck.handsOf(n);
    }

    public int most() {
        if (!told.begun) {
            return refuse(NO_SUCH);
        }
        return answer(ledger.largestDeck());
    }

    // ---- evenings

    public int judge(int evening) {
        if (noEvening(evening)) {
            return refuse(NO_SUCH);
        }
        return answerWhether(fitsHand(told.diary.hands[evening], told.diary.rows[evening]));
    }

    public int evening(int e, boolean row) {
        if (noEvening(e)) {
            return refuse(NO_SUCH);
        }
        return answer(row ? told.diary.rows[e] : told.diary.hands[e]);
    }

    public int agrees(int rule) {
        if (noRule(rule)) {
            return refuse(NO_SUCH);
        }
        int[] rows = ledger.laidBy(rule).rows;
        int agreeing = 0;
        for (int e = 0; e < told.diary.length; e++) {
            if (isAgreed(rows, e)) {
                agreeing++;
            }
        }
        return answer(agreeing);
    }

    public int wrong(int rule) {
        if (noRule(rule)) {
            return refuse(NO_SUCH);
        }
        return answer(firstWrong(ledger.laidBy(rule).rows));
    }

    private int firstWrong(int[] rows) {
        for (int e = 0; e < told.diary.length; e++) {
            if (!isAgreed(rows, e)) {
                return e;
            }
        }
        return NOTHING;
    }

    /** Whether an EVENING AGREES with the RULE that LAYS these ROWS. */
    private boolean isAgreed(int[] rows, int e) {
        return rows[told.diary.hands[e]] == told.diary.rows[e];
    }

    public int found() {
        if (!told.begun) {
            return refuse(NO_SUCH);
        }
        int bits = 0;
        for (int rule = 0; rule < told.ruleCount; rule++) {
            if (firstWrong(ledger.laidBy(rule).rows) == NOTHING) {
                bits |= 1 << rule;
            }
        }
        return answer(bits);
    }

    public int apart(int rule, int other) {
        if (noRule(rule) || noRule(other) || rule == other) {
            return refuse(NO_SUCH);
        }
        return answer(ledger.handsApart(ledger.laidBy(rule), ledger.laidBy(other)));
    }

    public int mean(int rule, int other, boolean lower) {
        if (noRule(rule) || noRule(other) || rule == other) {
            return refuse(NO_SUCH);
        }
        int below = ledger.handsApart(ledger.laidBy(rule), ledger.laidBy(other));
        if (below == 0) {
            return refuse(EMPTY);
        }
        int above = told.deck.handCount;
        int common = commonDivisor(above, below);
        return answer((lower ? below : above) / common);
    }

    /** At least 1. */
    private static int commonDivisor(int a, int b) {
        int greater = a;
        int lesser = b;
        for (int i = 0; i < 64 && lesser != 0; i++) {
            int rest = greater % lesser;
            greater = lesser;
            lesser = rest;
        }
        return Math.max(greater, 1);
    }

    public int hardest() {
        if (!told.begun) {
            return refuse(NO_SUCH);
        }
        if (told.ruleCount < 2) {
            return refuse(EMPTY);
        }
        int hard = 0;
        int least = HAND_ROOM + 1;
        for (int rule = 0; rule < told.ruleCount; rule++) {
            Laid laid = ledger.laidBy(rule);
            for (int other = 0; other < told.ruleCount; other++) {
                int unlike = other == rule ? least : ledger.handsApart(laid, ledger.laidBy(other));
                if (unlike < least) {
                    least = unlike;
                    hard = rule;
                }
            }
        }
        return answer(hard);
    }

    public int shows(int rule, int h) {
        if (noRule(rule) || noHand(h)) {
            return refuse(NO_SUCH);
        }
        int row = ledger.laidBy(rule).rows[h];
        if (row < 0) {
            return refuse(EMPTY);
        }
        if (told.diary.length >= EVENING_ROOM) {
            return refuse(NO_ROOM);
        }
        told.diary.add(h, row);
        return answer(told.diary.length - 1);
    }

    public boolean seed(int v) {
        if (!told.begun) {
            return deny(NO_SUCH);
        }
        if (v < 0 || v > LAST_SEED) {
            return deny(BAD_NUMBER);
        }
        told.diary.seedNow = v;
        return grant();
    }

    public int draw() {
        if (!told.begun) {
            return refuse(NO_SUCH);
        }
        told.diary.seedNow = (75 * told.diary.seedNow + 74) % (LAST_SEED + 1);
        return answer(told.diary.seedNow % told.deck.handCount);
    }

    public boolean strike() {
        if (told.diary.length == 0) {
            return deny(EMPTY);
        }
        told.diary.length--;
        return grant();
    }

    public int image() {
        if (!told.begun) {
            return refuse(NO_SUCH);
        }
        if (imageCount >= IMAGE_ROOM) {
            return refuse(NO_ROOM);
        }
        images[imageCount].become(told.diary);
        imageCount++;
        return answer(imageCount - 1);
    }

    public boolean back(int image) {
        if (image < 0 || image >= imageCount) {
            return deny(NO_SUCH);
        }
        told.diary.become(images[image]);
        return grant();
    }

    public int led(int rule, int i) throws NoSuchElementException {
        int hand = noRule(rule) ? NOTHING : ledger.failedHand(ledger.laidBy(rule), i);
        if (hand < 0) {
            throw new NoSuchElementException("no such hand");
        }
        return hand;
    }

    public int size(int what) {
        Deck deck = told.deck;
        switch (what) {
            case 0: return deck.cards;
            case 1: return deck.suits;
            case 2: return deck.handSize;
            case 3: return deck.keptSize;
            case 4: return deck.stranger ? 1 : 0;
            case 5: return deck.held ? 1 : 0;
            case 6: return deck.tilts ? 1 : 0;
            case 7: return told.ruleCount;
            case 8: return told.diary.length;
            case 9: return told.diary.seedNow;
            case 10: return imageCount;
            case 11: return tapeLength;
            default: return NONE;
        }
    }

    public int words(int rule) {
        return noRule(rule) ? NONE : told.rules[rule];
    }

    public int trouble() {
        return lastTrouble;
    }

    // ---- what calls have in common; without a TRICK all these counts are 0

    private boolean noHand(int h) {
        return h < 0 || h >= told.deck.handCount;
    }

    private boolean noRow(int r) {
        return r < 0 || r >= told.deck.rowCount;
    }

    private boolean noRule(int rule) {
        return rule < 0 || rule >= told.ruleCount;
    }

    private boolean noEvening(int e) {
        return e < 0 || e >= told.diary.length;
    }

    private int refuse(int why) {
        lastTrouble = why;
        return NONE;
    }

    private boolean deny(int why) {
        lastTrouble = why;
        return false;
    }

    private int answer(int value) {
        lastTrouble = 0;
        return value;
    }

    private int answerWhether(boolean so) {
        lastTrouble = 0;
        return so ? 1 : 0;
    }

    private boolean grant() {
        lastTrouble = 0;
        return true;
    }

    /** The numbers of a TRICK, and by them the numbering of HANDS and ROWS. */
    private static final class Deck {
        int cards;
        int suits;
        int ranks;
        int handSize;
        int keptSize;
        int shownSize;
        boolean stranger;
        boolean held;
        boolean tilts;
        int handCount;
        int rowCount;
        /** All orders of the CARDS shown. */
        int orders = 1;
        /** All sets of places tilted: one, the empty one, without tilts. */
        int tiltSets = 1;

        void clear() {
            cards = 0;
            suits = 0;
            ranks = 0;
            handSize = 0;
            keptSize = 0;
            shownSize = 0;
            stranger = false;
            held = false;
            tilts = false;
            handCount = 0;
            rowCount = 0;
            orders = 1;
            tiltSets = 1;
        }

        /** What follows from the numbers told. */
        void settle() {
            ranks = suits > 0 ? cards / suits : cards;
            shownSize = handSize - keptSize;
            orders = (int) falling(shownSize, shownSize);
            tiltSets = tilts ? 1 << shownSize : 1;
            handCount = (int) handsOf(cards);
            rowCount = (int) falling(cards, shownSize) * tiltSets;
        }

        /** She may lay the CARDS shown in any order. */
        boolean anyOrder() {
            return !stranger && !held;
        }

        long handsOf(int n) {
            return stranger ? falling(n, handSize) : choose(n, handSize);
        }

        /** COUNT of ROWS: those that can FIT a HAND. */
        long rowsOf(int n) {
            return (held ? choose(n, shownSize) : falling(n, shownSize)) * tiltSets;
        }

        int waysToShow() {
            long ways = anyOrder() ? falling(handSize, shownSize) : choose(handSize, shownSize);
            return (int) ways * tiltSets;
        }

        /** Rows of k unlike ones of n. */
        static long falling(int n, int k) {
            long product = 1;
            for (int i = 0; i < k; i++) {
                product *= n - i;
            }
            return product;
        }

        /** Sets of k of n; 0 for k greater than n. */
        static long choose(int n, int k) {
            long sets = 1;
            for (int i = 0; i < k; i++) {
                sets = sets * (n - i) / (i + 1);
            }
            return sets;
        }

        /** Up to five numbers below 16 stand in one, the first lowest. */
        static int cardAt(int packed, int i) {
            return packed >> 4 * i & 15;
        }

        /** Whether unlike CARDS, as many as a HAND has, stand there, and -1 behind them. */
        boolean isHand(int[] row) {
            int told = 0;
            for (int i = 0; i < LARGEST_HAND; i++) {
                int card = row[i];
                if (i >= handSize) {
                    if (card != -1) {
                        return false;
                    }
                } else {
                    if (card < 0 || card >= cards || (told >> card & 1) == 1) {
                        return false;
                    }
                    told |= 1 << card;
                }
            }
            return true;
        }

        /** The HAND of unlike CARDS; if she lays, they are sorted there. */
        int handNumber(int[] row) {
            if (stranger) {
                return rowNumber(row, handSize);
            }
            sort(row, handSize);
            long behind = 0;
            for (int i = 0; i < handSize; i++) {
                behind += choose(cards - 1 - row[i], handSize - i);
            }
            return (int) (choose(cards, handSize) - 1 - behind);
        }

        /** Among all rows of so many unlike CARDS, by the first, then the second, and so on. */
        int rowNumber(int[] row, int length) {
            int number = 0;
            int ahead = 0;
            for (int i = 0; i < length; i++) {
                int card = row[i];
                number = number * (cards - i) + card - Integer.bitCount(ahead & (1 << card) - 1);
                ahead |= 1 << card;
            }
            return number;
        }

        /** How many CARDS of a set are below one. */
        static int lower(int set, int card) {
            return Integer.bitCount(set & (1 << card) - 1);
        }

        /** The CARDS of a ROW. */
        void unpackRow(int r, int[] row) {
            int rest = r / tiltSets;
            for (int i = shownSize - 1; i >= 0; i--) {
                row[i] = rest % (cards - i);
                rest /= cards - i;
            }
            int ahead = 0;
            for (int i = 0; i < shownSize; i++) {
                row[i] = unusedCard(ahead, row[i]);
                ahead |= 1 << row[i];
            }
        }

        /** The CARD that is in no set with so many others below it that aren't. */
        private int unusedCard(int set, int others) {
            int left = others;
            for (int card = 0; card < cards; card++) {
                if ((set >> card & 1) == 0) {
                    if (left == 0) {
                        return card;
                    }
                    left--;
                }
            }
            return 0;
        }

        /** Whether a ROW of these CARDS FITS a HAND. */
        boolean isShownOf(int[] row, int hand) {
            int from = 0;
            for (int i = 0; i < shownSize; i++) {
                int place = placeIn(hand, row[i], stranger ? from : 0);
                if (place < 0 || held && i > 0 && row[i] < row[i - 1]) {
                    return false;
                }
                from = place + 1;
            }
            return true;
        }

        private int placeIn(int hand, int card, int from) {
            for (int place = from; place < handSize; place++) {
                if (cardAt(hand, place) == card) {
                    return place;
                }
            }
            return NONE;
        }

        /** The i-th of the CARDS of a HAND that aren't in a row, rising. */
        int keptCard(int[] row, int hand, int i) {
            int kept = 0;
            for (int place = 0; place < handSize; place++) {
                kept |= 1 << cardAt(hand, place);
            }
            for (int place = 0; place < shownSize; place++) {
                kept &= ~(1 << row[place]);
            }
            for (int card = 0; card < cards; card++) {
                if ((kept >> card & 1) == 1 && lower(kept, card) == i) {
                    return card;
                }
            }
            return NONE;
        }

        static void sort(int[] row, int length) {
            for (int i = 1; i < length; i++) {
                int card = row[i];
                int to = i;
                while (to > 0 && row[to - 1] > card) {
                    row[to] = row[to - 1];
                    to--;
                }
                row[to] = card;
            }
        }
    }

    /** All rows of unlike numbers, or all rising ones, in their order. */
    private static final class Lister {
        private static final int STEPS = 1000000;
        private final int[] row = new int[LARGEST_HAND];

        /** Puts all rows of so many numbers below n there, packed, as far as there is room. */
        void list(int n, int length, boolean rising, int[] out) {
            int count = 0;
            int at = 0;
            row[0] = -1;
            for (int step = 0; step < STEPS && at >= 0 && count < out.length; step++) {
                row[at] = following(n, at, rising);
                if (row[at] >= n) {
                    at--;
                } else if (at == length - 1) {
                    out[count] = pack(length);
                    count++;
                } else {
                    at++;
                    row[at] = rising ? row[at - 1] : -1;
                }
            }
        }

        /** The next number at a place; n if there is none. */
        private int following(int n, int at, boolean rising) {
            int ahead = 0;
            for (int i = 0; i < at && !rising; i++) {
                ahead |= 1 << row[i];
            }
            for (int next = row[at] + 1; next < n; next++) {
                if ((ahead >> next & 1) == 0) {
                    return next;
                }
            }
            return n;
        }

        private int pack(int length) {
            int packed = 0;
            for (int i = length - 1; i >= 0; i--) {
                packed = packed << 4 | row[i];
            }
            return packed;
        }
    }

    /** EVENINGS and SEED: what an IMAGE keeps. */
    private static final class Diary {
        final int[] hands = new int[EVENING_ROOM];
        final int[] rows = new int[EVENING_ROOM];
        int length;
        int seedNow;

        void clear() {
            length = 0;
            seedNow = 0;
        }

        /** Only while there is room. */
        void add(int hand, int row) {
            if (length < EVENING_ROOM) {
                hands[length] = hand;
                rows[length] = row;
                length++;
            }
        }

        void become(Diary other) {
            System.arraycopy(other.hands, 0, hands, 0, EVENING_ROOM);
            System.arraycopy(other.rows, 0, rows, 0, EVENING_ROOM);
            length = other.length;
            seedNow = other.seedNow;
        }
    }

    /** All that a text tells. */
    private static final class Told {
        boolean begun;
        final Deck deck = new Deck();
        final int[] rules = new int[RULE_ROOM];
        int ruleCount;
        final Diary diary = new Diary();

        void clear() {
            begun = false;
            deck.clear();
            ruleCount = 0;
            diary.clear();
        }
    }

    /** Reads a text from the left; each method of a part of it answers whether it may go on. */
    private static final class Reader {
        private static final int FORM = 1;
        private static final int AGAIN = 3;
        private static final int BOUNDS = 4;
        private static final int MANY = 5;
        private static final int LACKS = 6;
        private static final int HANDS = 7;

        private static final int END = 0;
        private static final int WORD = 1;
        private static final int WHOLE = 2;
        private static final int PARTING = 3;
        private static final int COMMA = 4;
        private static final int NO_TOKEN = 5;

        private static final int LONGEST_WORD = 8;
        private static final int LONGEST_WHOLE = 3;

        int faultNumber;
        int faultPlace;

        private byte[] text = new byte[0];
        private int textLength;
        private Told into = new Told();
        private final int[] nameStarts = new int[RULE_ROOM];
        private final int[] nameLengths = new int[RULE_ROOM];
        private final int[] row = new int[LARGEST_HAND];

        /** The TOKEN that is looked at, and where the next one is looked for. */
        private int kind;
        private int start;
        private int next;
        private int value;

        boolean readText(byte[] bytes, int length, Told room) {
            text = bytes;
            textLength = Math.min(length, bytes.length);
            into = room;
            into.clear();
            faultNumber = 0;
            faultPlace = 0;
            next = 0;
            step();
            // a LINE has a byte at least
            for (int line = 0; line <= textLength; line++) {
                if (!readLine()) {
                    return false;
                }
                if (kind == END) {
                    return true;
                }
                if (kind != PARTING) {
                    return fail(FORM);
                }
                step();
            }
            return fail(FORM);
        }

        private boolean fail(int number) {
            faultNumber = number;
            faultPlace = start;
            return false;
        }

        // the TOKENS

        private void step() {
            start = next;
            while (start < textLength && text[start] == ' ') {
                start++;
            }
            next = start;
            if (start >= textLength) {
                kind = END;
                return;
            }
            int sign = text[start];
            if (sign >= 'a' && sign <= 'z') {
                kind = runLength('a', 'z') <= LONGEST_WORD ? WORD : NO_TOKEN;
            } else if (sign >= '0' && sign <= '9') {
                kind = runLength('0', '9') <= LONGEST_WHOLE ? WHOLE : NO_TOKEN;
            } else {
                kind = sign == ';' ? PARTING : sign == ',' ? COMMA : NO_TOKEN;
                next++;
            }
        }

        /** Goes on behind all signs of a sort that stand together: how many; of digits also their value. */
        private int runLength(int least, int greatest) {
            value = 0;
            while (next < textLength && text[next] >= least && text[next] <= greatest) {
                value = value * 10 + (text[next] - least);
                next++;
            }
            return next - start;
        }

        private boolean is(String word) {
            if (kind != WORD || next - start != word.length()) {
                return false;
            }
            for (int i = 0; i < word.length(); i++) {
                if (text[start + i] != word.charAt(i)) {
                    return false;
                }
            }
            return true;
        }

        private boolean pass(String word) {
            if (!is(word)) {
                return fail(FORM);
            }
            step();
            return true;
        }

        private boolean isWhole(int least, int greatest) {
            if (kind != WHOLE) {
                return fail(FORM);
            }
            return value >= least && value <= greatest || fail(BOUNDS);
        }

        /** A WHOLE behind a word; its number, or -1 behind a FAULT. */
        private int passWhole(String word, int least, int greatest) {
            if (!is(word)) {
                fail(FORM);
                return NONE;
            }
            step();
            if (!isWhole(least, greatest)) {
                return NONE;
            }
            int number = value;
            step();
            return number;
        }

        // the LINES

        private boolean readLine() {
            if (is("trick")) {
                return readTrick();
            }
            if (is("rule")) {
                return readRule();
            }
            if (is("evening")) {
                return readEvening();
            }
            return fail(FORM);
        }

        private boolean readTrick() {
            if (into.begun) {
                return fail(AGAIN);
            }
            step();
            Deck deck = into.deck;
            deck.cards = passWhole("cards", 4, 12);
            if (deck.cards < 0 || !readSuits(deck)) {
                return false;
            }
            deck.handSize = passWhole("hand", 2, Math.min(LARGEST_HAND, deck.cards));
            if (deck.handSize < 0) {
                return false;
            }
            deck.keptSize = passWhole("kept", 1, Math.min(2, deck.handSize - 1));
            if (deck.keptSize < 0 || !readWay(deck)) {
                return false;
            }
            deck.settle();
            into.begun = true;
            return true;
        }

        private boolean readSuits(Deck deck) {
            if (!pass("suits") || !isWhole(1, 4)) {
                return false;
            }
            if (value < 1 || deck.cards % value != 0) {
                return fail(BOUNDS);
            }
            deck.suits = value;
            step();
            return true;
        }

        private boolean readWay(Deck deck) {
            deck.stranger = is("stranger");
            if (!deck.stranger && !is("she")) {
                return fail(FORM);
            }
            if (deck.handsOf(deck.cards) > HAND_ROOM) {
                return fail(HANDS);
            }
            step();
            deck.held = !deck.stranger && is("held");
            if (deck.held) {
                step();
            }
            deck.tilts = is("tilts");
            if (deck.tilts) {
                step();
            }
            return true;
        }

        private boolean readRule() {
            if (!into.begun) {
                return fail(LACKS);
            }
            if (into.ruleCount >= RULE_ROOM) {
                return fail(MANY);
            }
            step();
            if (!readName()) {
                return false;
            }
            int rule = readKind();
            if (rule < 0) {
                return false;
            }
            into.rules[into.ruleCount] = rule;
            into.ruleCount++;
            return true;
        }

        private boolean readName() {
            if (kind != WORD || is("trick") || is("rule") || is("evening") || is("shows") || is("tilted")) {
                return fail(FORM);
            }
            for (int rule = 0; rule < into.ruleCount; rule++) {
                if (isNameOf(rule)) {
                    return fail(AGAIN);
                }
            }
            nameStarts[into.ruleCount] = start;
            nameLengths[into.ruleCount] = next - start;
            step();
            return true;
        }

        private boolean isNameOf(int rule) {
            if (next - start != nameLengths[rule]) {
                return false;
            }
            for (int i = 0; i < nameLengths[rule]; i++) {
                if (text[start + i] != text[nameStarts[rule] + i]) {
                    return false;
                }
            }
            return true;
        }

        /** Which rule it is; -1 behind a FAULT. */
        private int readKind() {
            if (is("suit")) {
                step();
                return SUIT;
            }
            if (is("table")) {
                step();
                return TABLE;
            }
            if (!pass("keeps")) {
                return NONE;
            }
            int keep = keepWord();
            if (keep < 0) {
                fail(FORM);
                return NONE;
            }
            step();
            if (!pass("tells")) {
                return NONE;
            }
            int tell = tellWord();
            if (tell < 0) {
                fail(FORM);
                return NONE;
            }
            step();
            return TELLS * keep + tell;
        }

        private int keepWord() {
            return is("low") ? 0 : is("high") ? 1 : is("mid") ? 2 : is("sum") ? 3 : NONE;
        }

        private int tellWord() {
            return is("place") ? 0 : is("rank") ? 1 : is("gap") ? 2 : is("ring") ? 3 : is("sum") ? 4 : NONE;
        }

        private boolean readEvening() {
            if (!into.begun) {
                return fail(LACKS);
            }
            if (into.diary.length >= TOLD_EVENINGS) {
                return fail(MANY);
            }
            step();
            Deck deck = into.deck;
            if (!readCards(deck.handSize)) {
                return false;
            }
            int hand = deck.handNumber(row);
            if (!pass("shows") || !readCards(deck.shownSize)) {
                return false;
            }
            int shown = deck.rowNumber(row, deck.shownSize) * deck.tiltSets;
            int tilts = 0;
            if (deck.tilts && is("tilted")) {
                step();
                tilts = readTilts(deck.shownSize);
                if (tilts < 0) {
                    return false;
                }
            }
            into.diary.add(hand, shown + tilts);
            return true;
        }

        /** So many unlike CARDS, into the row. */
        private boolean readCards(int count) {
            int told = 0;
            for (int i = 0; i < count; i++) {
                if (i > 0) {
                    if (kind != COMMA) {
                        return fail(FORM);
                    }
                    step();
                }
                if (!isUntold(into.deck.cards, told)) {
                    return false;
                }
                row[i] = value;
                told |= 1 << value;
                step();
            }
            return true;
        }

        /** A WHOLE below a bound that isn't in the set. */
        private boolean isUntold(int bound, int told) {
            if (!isWhole(0, bound - 1)) {
                return false;
            }
            return (told >> value & 1) == 0 || fail(AGAIN);
        }

        /** Unlike places, as bits; -1 behind a FAULT. */
        private int readTilts(int places) {
            int told = 0;
            for (int i = 0; i <= textLength; i++) {
                if (!isUntold(places, told)) {
                    return NONE;
                }
                told |= 1 << value;
                step();
                if (kind != COMMA) {
                    return told;
                }
                step();
            }
            return NONE;
        }
    }

    /** A set of ROWS, each with a HAND; cleared without a walk through it, since that is done often. */
    private static final class RowSet {
        /** Room for 3,168, the most: 792 ROWS laid of four CARDS, each with the three that it becomes. */
        private static final int BITS = 12;
        private static final int ROOM = 1 << BITS;
        private final int[] keys = new int[ROOM];
        private final int[] holders = new int[ROOM];
        private final int[] stamps = new int[ROOM];
        private int stamp;

        void clear() {
            stamp++;
        }

        /** Where a ROW is, or would be put; -1 if there is neither. */
        private int slotOf(int row) {
            int slot = row * 0x9E3779B1 >>> 32 - BITS;
            for (int i = 0; i < ROOM; i++) {
                if (stamps[slot] != stamp || keys[slot] == row) {
                    return slot;
                }
                slot = slot + 1 & ROOM - 1;
            }
            return NONE;
        }

        /** The HAND of a ROW; -1 if it isn't there. */
        int holderOf(int row) {
            int slot = slotOf(row);
            return slot >= 0 && stamps[slot] == stamp ? holders[slot] : NONE;
        }

        /** The HAND that the ROW has already; -1 if it is put now. */
        int put(int row, int hand) {
            int slot = slotOf(row);
            if (slot < 0) {
                return NONE;
            }
            if (stamps[slot] == stamp) {
                return holders[slot];
            }
            stamps[slot] = stamp;
            keys[slot] = row;
            holders[slot] = hand;
            return NONE;
        }
    }

    /** What a rule by words, or by suit, LAYS for one HAND. */
    private static final class Layer {
        private final int[] rising = new int[LARGEST_HAND];
        private final int[] shown = new int[LARGEST_HAND];

        int byWords(Deck deck, int hand, int words) {
            sortHand(deck, hand);
            int first = keepPlace(deck, words / TELLS);
            int second = deck.keptSize == 2 ? (first + 1) % deck.handSize : first;
            int lesser = Math.min(rising[first], rising[second]);
            int greater = Math.max(rising[first], rising[second]);
            int open = showOthers(deck, hand, 1 << lesser | 1 << greater);
            int tell = words % TELLS;
            if (deck.keptSize == 1) {
                return rowTelling(deck, tellOf(deck, tell, lesser, open, lesser));
            }
            int both = lesser + greater;
            int v = tellOf(deck, tell, lesser, open, both) * deck.cards + tellOf(deck, tell, greater, open, both);
            return rowTelling(deck, v);
        }

        private void sortHand(Deck deck, int hand) {
            for (int i = 0; i < deck.handSize; i++) {
                rising[i] = Deck.cardAt(hand, i);
            }
            if (deck.stranger) {
                Deck.sort(rising, deck.handSize);
            }
        }

        /** How many CARDS of the HAND are ahead of the one that is kept. */
        private int keepPlace(Deck deck, int keep) {
            switch (keep) {
                case 0: return 0;
                case 1: return deck.handSize - 1;
                case 2: return (deck.handSize - deck.keptSize) / 2;
                default: break;
            }
            int sum = 0;
            for (int i = 0; i < deck.handSize; i++) {
                sum += rising[i];
            }
            return sum % deck.handSize;
        }

        /** Shows the CARDS of a HAND that aren't kept as they lie; answers the set of them. */
        private int showOthers(Deck deck, int hand, int kept) {
            int open = 0;
            int count = 0;
            for (int i = 0; i < deck.handSize; i++) {
                int card = Deck.cardAt(hand, i);
                if ((kept >> card & 1) == 0) {
                    shown[count] = card;
                    count++;
                    open |= 1 << card;
                }
            }
            return open;
        }

        private int tellOf(Deck deck, int tell, int card, int open, int keptSum) {
            switch (tell) {
                case 0: return card;
                case 1: return card % deck.ranks;
                case 2: return gapBelow(deck.cards, card, open);
                case 3: return (card - Deck.lower(open, card)) / deck.handSize;
                default: return keptSum % deck.cards;
            }
        }

        private static int gapBelow(int cards, int card, int open) {
            for (int gap = 1; gap < cards; gap++) {
                int below = card >= gap ? card - gap : card - gap + cards;
                if ((open >> below & 1) == 1) {
                    return gap;
                }
            }
            return 0;
        }

        private int rowTelling(Deck deck, int v) {
            int tilt = v;
            if (deck.anyOrder()) {
                arrange(0, deck.shownSize, v % deck.orders);
                tilt = v / deck.orders;
            }
            return deck.rowNumber(shown, deck.shownSize) * deck.tiltSets + tilt % deck.tiltSets;
        }

        /** Puts so many rising CARDS shown, from a place on, into the order of that number. */
        private void arrange(int from, int count, int number) {
            int rest = number;
            for (int i = 0; i < count - 1; i++) {
                int later = (int) Deck.falling(count - 1 - i, count - 1 - i);
                int to = from + i;
                int at = to + rest / later;
                rest %= later;
                int card = shown[at];
                for (int place = at; place > to; place--) {
                    shown[place] = shown[place - 1];
                }
                shown[to] = card;
            }
        }

        int bySuit(Deck deck, int hand) {
            if (!deck.anyOrder() || deck.keptSize != 1) {
                return NOTHING;
            }
            sortHand(deck, hand);
            for (int a = 0; a < deck.handSize; a++) {
                for (int b = a + 1; b < deck.handSize; b++) {
                    if (rising[a] / deck.ranks == rising[b] / deck.ranks) {
                        return rowOfTwo(deck, rising[a], rising[b]);
                    }
                }
            }
            return NOTHING;
        }

        /** The ROW by two CARDS of one suit, the lesser first. */
        private int rowOfTwo(Deck deck, int lesser, int greater) {
            int steps = greater - lesser;
            boolean near = 2 * steps <= deck.ranks;
            int order = (near ? steps : deck.ranks - steps) - 1;
            int others = deck.shownSize - 1;
            if (order >= Deck.falling(others, others)) {
                return NOTHING;
            }
            shown[0] = near ? lesser : greater;
            int count = 1;
            for (int i = 0; i < deck.handSize; i++) {
                if (rising[i] != lesser && rising[i] != greater) {
                    shown[count] = rising[i];
                    count++;
                }
            }
            arrange(1, others, order);
            return deck.rowNumber(shown, deck.shownSize) * deck.tiltSets;
        }
    }

    /** The least TABLE: some pairing of all HANDS first, then for each HAND in turn the least ROW that leaves one. */
    private static final class Pairing {
        private static final int MOST_PLACES = 120;

        final int[] rowOfHand = new int[TABLE_ROOM];
        boolean ready;
        boolean whole;

        private Deck deck = new Deck();
        private int[] hands = new int[0];
        /** The places of a HAND that can be shown, in order, packed. */
        private final int[] places = new int[MOST_PLACES];
        private int placeCount;
        private final int[] shown = new int[LARGEST_HAND];
        /** By HAND and places: 1 and the row of CARDS there without tilts; 0 while it isn't known. */
        private int[] cardRows = new int[0];
        /** By ROW: 1 and its HAND; 0 for none. */
        private int[] owners = new int[0];
        /** HANDS below this one keep their ROWS. */
        private int settled;
        private final int[] queue = new int[TABLE_ROOM];
        private final int[] cameFrom = new int[TABLE_ROOM];
        /** The search in which a HAND was reached. */
        private final int[] reached = new int[TABLE_ROOM];
        private int search;

        void solve(Deck ofDeck, int[] ofHands, Lister lister) {
            if (ready) {
                return;
            }
            ready = true;
            deck = ofDeck;
            hands = ofHands;
            whole = deck.handCount <= TABLE_ROOM && deck.handCount <= deck.rowsOf(deck.cards);
            if (!whole) {
                return;
            }
            clear(lister);
            for (int h = 0; h < deck.handCount && whole; h++) {
                search++;
                whole = rehome(h);
            }
            for (int h = 0; h < deck.handCount && whole; h++) {
                settleLeast(h);
            }
        }

        private void clear(Lister lister) {
            placeCount = deck.waysToShow() / deck.tiltSets;
            lister.list(deck.handSize, deck.shownSize, !deck.anyOrder(), places);
            int all = deck.handCount * placeCount;
            if (cardRows.length < all) {
                cardRows = new int[all];
            }
            Arrays.fill(cardRows, 0);
            if (owners.length < deck.rowCount) {
                owners = new int[deck.rowCount];
            }
            Arrays.fill(owners, 0);
            Arrays.fill(rowOfHand, NONE);
            settled = 0;
            for (int h = 0; h < deck.handCount && deck.stranger; h++) {
                sortRows(h);
            }
        }

        /** A stranger's HAND isn't rising, so that its ROWS don't come in the order of the places. */
        private void sortRows(int h) {
            int from = h * placeCount;
            for (int i = 0; i < placeCount; i++) {
                rowAt(h, i);
                int known = cardRows[from + i];
                int to = from + i;
                while (to > from && cardRows[to - 1] > known) {
                    cardRows[to] = cardRows[to - 1];
                    to--;
                }
                cardRows[to] = known;
            }
        }

        /** The i-th row of CARDS for a HAND, times the tilts. */
        private int rowAt(int h, int i) {
            int at = h * placeCount + i;
            if (cardRows[at] == 0) {
                for (int j = 0; j < deck.shownSize; j++) {
                    shown[j] = Deck.cardAt(hands[h], Deck.cardAt(places[i], j));
                }
                cardRows[at] = 1 + deck.rowNumber(shown, deck.shownSize);
            }
            return (cardRows[at] - 1) * deck.tiltSets;
        }

        /** Gives a HAND another ROW, at the cost of HANDS that aren't settled and find others in turn. */
        private boolean rehome(int start) {
            queue[0] = start;
            reached[start] = search;
            cameFrom[start] = NONE;
            int tail = 1;
            for (int head = 0; head < tail && head < TABLE_ROOM; head++) {
                int h = queue[head];
                for (int i = 0; i < placeCount; i++) {
                    int first = rowAt(h, i);
                    for (int row = first; row < first + deck.tiltSets; row++) {
                        int owner = owners[row] - 1;
                        if (owner < 0) {
                            hurry(h, row);
                            return true;
                        }
                        if (owner >= settled && reached[owner] != search && tail < TABLE_ROOM) {
                            reached[owner] = search;
                            cameFrom[owner] = h;
                            queue[tail] = owner;
                            tail++;
                        }
                    }
                }
            }
            return false;
        }

        /** Hands the ROWS on along the way that was found. */
        private void hurry(int last, int free) {
            int h = last;
            int row = free;
            for (int i = 0; i < TABLE_ROOM && h >= 0; i++) {
                int old = rowOfHand[h];
                rowOfHand[h] = row;
                owners[row] = h + 1;
                row = old;
                h = cameFrom[h];
            }
        }

        /**
         * HANDS reached in vain stay marked for the ROWS behind: theirs are all among themselves, so
         * that no other way leads out either.
         */
        private void settleLeast(int h) {
            owners[rowOfHand[h]] = 0;
            settled = h + 1;
            search++;
            for (int i = 0; i < placeCount; i++) {
                int first = rowAt(h, i);
                for (int row = first; row < first + deck.tiltSets; row++) {
                    int owner = owners[row] - 1;
                    if (owner < 0 || owner > h && reached[owner] != search && rehome(owner)) {
                        rowOfHand[h] = row;
                        owners[row] = h + 1;
                        return;
                    }
                }
            }
        }
    }

    /** The ROWS that one RULE LAYS, and what is known of them. */
    private static final class Laid {
        final int rule;
        final int[] rows = new int[HAND_ROOM];
        boolean filled;
        int failCount;
        int unlikeCount;
        int clashHand;
        int clashAhead;
        boolean judged;
        boolean seen;
        boolean borne;

        Laid(int number) {
            rule = number;
        }

        void clear() {
            filled = false;
            failCount = 0;
            unlikeCount = 0;
            clashHand = NOTHING;
            clashAhead = NOTHING;
            judged = false;
            seen = false;
            borne = false;
        }
    }

    /** What follows from the TRICK, found when it is first asked for and kept. */
    private static final class Ledger {
        private static final int UNKNOWN = -3;

        final int[] hands = new int[HAND_ROOM];
        private Told told = new Told();
        private final Lister lister = new Lister();
        private final Layer layer = new Layer();
        private final RowSet set = new RowSet();
        private final Pairing pairing = new Pairing();
        private final Laid[] laids = {new Laid(0), new Laid(1), new Laid(2), new Laid(3)};
        private final int[] aparts = new int[RULE_ROOM * RULE_ROOM];
        private final int[] wordsWorking = new int[WORDS_ROOM];
        private int mostCards;
        private final int[] row = new int[LARGEST_HAND];

        void begin(Told trick) {
            told = trick;
            lister.list(told.deck.cards, told.deck.handSize, !told.deck.stranger, hands);
            pairing.ready = false;
            for (int rule = 0; rule < RULE_ROOM; rule++) {
                laids[rule].clear();
            }
            Arrays.fill(aparts, UNKNOWN);
            Arrays.fill(wordsWorking, UNKNOWN);
            mostCards = UNKNOWN;
        }

        Laid laidBy(int rule) {
            Laid laid = laids[rule];
            if (!laid.filled) {
                laid.filled = true;
                if (told.rules[rule] == TABLE) {
                    pairing.solve(told.deck, hands, lister);
                }
                set.clear();
                for (int h = 0; h < told.deck.handCount; h++) {
                    note(laid, h, rowFor(told.rules[rule], h));
                }
            }
            return laid;
        }

        private int rowFor(int kind, int h) {
            if (kind == TABLE) {
                return tableRow(h);
            }
            return kind == SUIT ? layer.bySuit(told.deck, hands[h]) : layer.byWords(told.deck, hands[h], kind);
        }

        private void note(Laid laid, int h, int laidRow) {
            laid.rows[h] = laidRow;
            if (laidRow < 0) {
                laid.failCount++;
                return;
            }
            int ahead = set.put(laidRow, h);
            if (ahead < 0) {
                laid.unlikeCount++;
            } else if (laid.clashHand < 0) {
                laid.clashHand = h;
                laid.clashAhead = ahead;
            }
        }

        void readyTable() {
            pairing.solve(told.deck, hands, lister);
        }

        /** By the least TABLE, once it is ready; none too for more HANDS than it has room for. */
        int tableRow(int h) {
            return pairing.whole && h < TABLE_ROOM ? pairing.rowOfHand[h] : NOTHING;
        }

        int firstLaid(Laid laid, int wanted) {
            for (int h = 0; h < told.deck.handCount; h++) {
                if (laid.rows[h] == wanted) {
                    return h;
                }
            }
            return NOTHING;
        }

        int failedHand(Laid laid, int i) {
            if (i < 0 || i >= laid.failCount) {
                return NOTHING;
            }
            int left = i;
            for (int h = 0; h < told.deck.handCount; h++) {
                if (laid.rows[h] < 0) {
                    if (left == 0) {
                        return h;
                    }
                    left--;
                }
            }
            return NOTHING;
        }

        Laid swapsJudged(Laid laid) {
            if (!laid.judged) {
                laid.judged = true;
                set.clear();
                for (int h = 0; h < told.deck.handCount; h++) {
                    if (laid.rows[h] >= 0) {
                        set.put(laid.rows[h], h);
                    }
                }
                laid.seen = noSwap(laid, false);
                laid.borne = laid.seen && noSwap(laid, true);
            }
            return laid;
        }

        /** Whether no ROW laid becomes one of the set; each that it becomes may go into the set. */
        private boolean noSwap(Laid laid, boolean put) {
            for (int h = 0; h < told.deck.handCount; h++) {
                int laidRow = laid.rows[h];
                if (laidRow < 0 || set.holderOf(laidRow) != h) {
                    continue;
                }
                told.deck.unpackRow(laidRow, row);
                for (int i = 0; i + 1 < told.deck.shownSize; i++) {
                    int other = swapped(laidRow % told.deck.tiltSets, i);
                    if ((put ? set.put(other, h) : set.holderOf(other)) >= 0) {
                        return false;
                    }
                }
            }
            return true;
        }

        /** What the row becomes if the CARDS at a place and behind it, and their tilts, change places. */
        private int swapped(int tilts, int i) {
            int unlike = (tilts >> i ^ tilts >> i + 1) & 1;
            swapCards(i);
            int cards = told.deck.rowNumber(row, told.deck.shownSize);
            swapCards(i);
            return cards * told.deck.tiltSets + (tilts ^ unlike * (3 << i));
        }

        private void swapCards(int i) {
            int card = row[i];
            row[i] = row[i + 1];
            row[i + 1] = card;
        }

        boolean doWordsWork(int words) {
            if (wordsWorking[words] == UNKNOWN) {
                wordsWorking[words] = tryWords(words) ? 1 : 0;
            }
            return wordsWorking[words] == 1;
        }

        private boolean tryWords(int words) {
            set.clear();
            for (int h = 0; h < told.deck.handCount; h++) {
                if (set.put(layer.byWords(told.deck, hands[h], words), h) >= 0) {
                    return false;
                }
            }
            return true;
        }

        int handsApart(Laid one, Laid other) {
            int at = one.rule * RULE_ROOM + other.rule;
            if (aparts[at] == UNKNOWN) {
                int unlike = 0;
                for (int h = 0; h < told.deck.handCount; h++) {
                    if (one.rows[h] != other.rows[h]) {
                        unlike++;
                    }
                }
                aparts[at] = unlike;
                aparts[other.rule * RULE_ROOM + one.rule] = unlike;
            }
            return aparts[at];
        }

        int largestDeck() {
            if (mostCards == UNKNOWN) {
                mostCards = NOTHING;
                for (int n = told.deck.handSize; n <= LARGEST_DECK; n++) {
                    if (told.deck.handsOf(n) <= told.deck.rowsOf(n)) {
                        mostCards = n;
                    }
                }
            }
            return mostCards;
        }
    }
}
