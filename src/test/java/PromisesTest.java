import java.util.NoSuchElementException;

/** Each promise of the document by itself: ordinary inputs, the edges that it names, wrong inputs. */
public final class PromisesTest {
    private static int wrong = 0;
    private static int checks = 0;
    private static int promise = 0;

    private static final String SMALL = "trick cards 4 suits 2 hand 2 kept 1 she";
    private static final String EIGHT = "trick cards 8 suits 2 hand 3 kept 1 she";
    private static final String STRANGER = "trick cards 4 suits 1 hand 3 kept 2 stranger tilts";
    private static final String HELD = "trick cards 5 suits 1 hand 3 kept 1 she held";
    private static final String TILTS = "trick cards 4 suits 1 hand 3 kept 1 she tilts";
    private static final String TWO_KEPT = "trick cards 6 suits 2 hand 4 kept 2 she";

    public static void main(String[] args) {
        newObject();
        feeding();
        tricks();
        forms();
        faultsByNumber();
        faultsStay();
        handsAndRows();
        handNumbers();
        fitting();
        laying();
        wordsOneByOne();
        suitRule();
        tableRule();
        keeping();
        saying();
        working();
        swaps();
        wordsWorking();
        pairing();
        counting();
        evenings();
        telling();
        showing();
        drawing();
        imaging();
        leading();
        sizes();
        troubles();
        System.out.println(checks + " checks, " + wrong + " wrong");
        if (wrong != 0) {
            System.exit(1);
        }
    }

    // ---- helpers

    private static void due(String what, long got, long want) {
        checks++;
        if (got != want) {
            wrong++;
            System.out.println("promise " + promise + ": " + what + " answered " + got + ", due is " + want);
        }
    }

    private static void due(String what, boolean got, boolean want) {
        due(what, got ? 1 : 0, want ? 1 : 0);
    }

    private static void feed(FifthCard x, String text) {
        StringBuilder padded = new StringBuilder(text);
        while (padded.length() % 20 != 0) {
            padded.append(' ');
        }
        for (int i = 0; i < padded.length(); i += 20) {
            int[] five = new int[5];
            for (int j = 0; j < 20; j++) {
                five[j / 4] = five[j / 4] << 8 | padded.charAt(i + j) & 255;
            }
            x.feed(five[0], five[1], five[2], five[3], five[4]);
        }
    }

    private static int tell(FifthCard x, String text) {
        feed(x, text);
        return x.trick(text.length());
    }

    private static FifthCard told(String text) {
        FifthCard x = new FifthCard();
        int answer = tell(x, text);
        if (answer < 0) {
            due("'" + text + "' is a trick", x.fault() * 1000 + x.where(), 0);
        }
        return x;
    }

    private static void refused(FifthCard x, String what, long got, int trouble) {
        due(what, got, -1);
        due(what + ": trouble", x.trouble(), trouble);
    }

    private static void faulty(String text, int fault, int where) {
        FifthCard x = new FifthCard();
        due("'" + text + "'", tell(x, text), -1);
        due("'" + text + "' trouble", x.trouble(), 4);
        due("'" + text + "' fault", x.fault(), fault);
        due("'" + text + "' where", x.where(), where);
    }

    private static boolean leads(FifthCard x, int rule, int i, int want) {
        try {
            return x.led(rule, i) == want;
        } catch (NoSuchElementException e) {
            return false;
        }
    }

    private static boolean ledThrows(FifthCard x, int rule, int i) {
        try {
            x.led(rule, i);
            return false;
        } catch (NoSuchElementException e) {
            return true;
        }
    }

    // ---- 1 to 5: the trick

    private static void newObject() {
        promise = 1;
        FifthCard x = new FifthCard();
        due("trouble", x.trouble(), 0);
        due("fault", x.fault(), 0);
        due("where", x.where(), -1);
        for (int what = 0; what < 12; what++) {
            due("size " + what, x.size(what), 0);
        }
        refused(x, "hands", x.hands(), 1);
        refused(x, "rows", x.rows(), 1);
        refused(x, "hand", x.hand(0, 0), 1);
        refused(x, "handOf", x.handOf(0, 1, -1, -1, -1), 1);
        refused(x, "row", x.row(0, 0), 1);
        refused(x, "tilted", x.tilted(0), 1);
        refused(x, "fits", x.fits(0, 0), 1);
        refused(x, "fitting", x.fitting(), 1);
        refused(x, "lays", x.lays(0, 0), 1);
        refused(x, "kept", x.kept(0, 0, 0), 1);
        refused(x, "says", x.says(0, 0), 1);
        refused(x, "works", x.works(0), 1);
        refused(x, "clash", x.clash(0, true), 1);
        refused(x, "laid", x.laid(0), 1);
        refused(x, "fails", x.fails(0), 1);
        refused(x, "seen", x.seen(0), 1);
        refused(x, "borne", x.borne(0), 1);
        refused(x, "wordsWork", x.wordsWork(0), 1);
        refused(x, "wordsWork of a wrong number", x.wordsWork(20), 1);
        refused(x, "shortest", x.shortest(), 1);
        refused(x, "pairs", x.pairs(), 1);
        refused(x, "table", x.table(0), 1);
        refused(x, "count", x.count(5, true), 1);
        refused(x, "count of a wrong number", x.count(500, true), 1);
        refused(x, "most", x.most(), 1);
        refused(x, "judge", x.judge(0), 1);
        refused(x, "evening", x.evening(0, false), 1);
        refused(x, "agrees", x.agrees(0), 1);
        refused(x, "wrong", x.wrong(0), 1);
        refused(x, "found", x.found(), 1);
        refused(x, "apart", x.apart(0, 1), 1);
        refused(x, "mean", x.mean(0, 1, true), 1);
        refused(x, "hardest", x.hardest(), 1);
        refused(x, "shows", x.shows(0, 0), 1);
        refused(x, "draw", x.draw(), 1);
        refused(x, "image", x.image(), 1);
        due("seed", x.seed(0), false);
        due("seed: trouble", x.trouble(), 1);
        due("seed of a wrong number", x.seed(-1), false);
        due("seed of a wrong number: trouble", x.trouble(), 1);
        due("strike", x.strike(), false);
        due("strike: trouble", x.trouble(), 6);
        due("back", x.back(0), false);
        due("back: trouble", x.trouble(), 1);
        due("words", x.words(0), -1);
        due("led throws", ledThrows(x, 0, 0), true);
    }

    private static void feeding() {
        promise = 2;
        FifthCard x = new FifthCard();
        for (int i = 1; i <= 45; i++) {
            due("feed " + i, x.feed(0x20202020, 0x20202020, 0x20202020, 0x20202020, 0x20202020), 20 * i);
        }
        due("feed beyond 900", x.feed(0, 0, 0, 0, 0), -1);
        due("the tape is as it was", x.size(11), 900);
        due("feed has no trouble", x.trouble(), 0);
        due("900 blanks", x.trick(900), -1);
        due("900 blanks end", x.where(), 900);
        due("there is room again", x.feed(0, 0, 0, 0, 0), 20);
        x = new FifthCard();
        due("the highest byte comes first", x.feed(0x74726963, 0x6b206361, 0x72647320, 0x34207375, 0x69747320), 20);
        feed(x, "2 hand 2 kept 1 she");
        due("read as it was fed", x.trick(39), 0);
        due("negative numbers are bytes too", x.feed(-1, -1, -1, -1, -1), 20);
        due("byte 255 begins no token", x.trick(1), -1);
        due("at its place", x.where(), 0);
    }

    private static void tricks() {
        promise = 3;
        FifthCard x = new FifthCard();
        due("no rules", tell(x, SMALL), 0);
        due("two rules", tell(x, SMALL + ";rule a suit;rule b table"), 2);
        due("four rules", tell(x, SMALL + ";rule a suit;rule b table;rule c keeps low tells gap;rule d suit"), 4);
        due("the tape is empty", x.size(11), 0);
        x.seed(9);
        x.image();
        feed(x, SMALL + ";rule e suit and all that isn't read");
        refused(x, "more than there is", x.trick(81), 2);
        due("the tape stays", x.size(11), 80);
        refused(x, "less than none", x.trick(-1), 2);
        refused(x, "far less", x.trick(Integer.MIN_VALUE), 2);
        due("the tape stays still", x.size(11), 80);
        due("the trick stays", x.size(7), 4);
        due("the first bytes alone", x.trick(SMALL.length() + 12), 1);
        due("the rest has gone", x.size(11), 0);
        due("seed 0", x.size(9), 0);
        due("no images", x.size(10), 0);
        refused(x, "the empty text", x.trick(0), 4);
        due("the trick stays at a fault", x.size(7), 1);
        due("blanks mean nothing", tell(x, "  trick  cards 4 suits 2hand 2kept 1she ; rule a suit;rule b table  "), 2);
        due("digits with noughts ahead", tell(x, "trick cards 004 suits 02 hand 2 kept 01 she"), 0);
        due("names may be other words", tell(x, SMALL + ";rule suit suit;rule table table;rule keeps keeps low tells sum;rule tilts suit"), 4);
        due("a name of eight letters", tell(x, SMALL + ";rule abcdefgh suit"), 1);
        due("all ways", tell(x, "trick cards 12 suits 4 hand 5 kept 2 she held tilts"), 0);
        due("the largest of a stranger", tell(x, "trick cards 8 suits 4 hand 4 kept 1 stranger tilts"), 0);
        StringBuilder nine = new StringBuilder(SMALL);
        for (int i = 0; i < 9; i++) {
            nine.append(";evening 0,1 shows 0");
        }
        due("nine evenings", tell(x, nine.toString()), 0);
        due("nine evenings are there", x.size(8), 9);
    }

    // ---- FAULTS

    private static void forms() {
        promise = 4;
        faulty("", 1, 0);
        faulty("   ", 1, 3);
        faulty("Trick cards 4", 1, 0);
        faulty("cards 4", 1, 0);
        faulty(";", 1, 0);
        faulty(SMALL + ";", 1, 40);
        faulty(SMALL + ";;", 1, 40);
        faulty(SMALL + " ; ", 1, 42);
        faulty("trick", 1, 5);
        faulty("trick card 4", 1, 6);
        faulty("trick cards x", 1, 12);
        faulty("trick cards 1234", 1, 12);
        faulty("trick cards 4,", 1, 13);
        faulty("trick cards 4 hand 2", 1, 14);
        faulty("trick cards 4 suits 2 hand 2 kept 1", 1, 35);
        faulty("trick cards 4 suits 2 hand 2 kept 1 he", 1, 36);
        faulty("trick cards 4 suits 2 hand 2 kept 1 tilts", 1, 36);
        faulty(SMALL + " stranger", 1, 40);
        faulty(SMALL + " tilts held", 1, 46);
        faulty("trick cards 4 suits 2 hand 2 kept 1 stranger held", 1, 45);
        faulty(SMALL + " tilts tilts", 1, 46);
        faulty(SMALL + "\t", 1, 39);
        faulty(SMALL + ";rule", 1, 44);
        faulty(SMALL + ";rule 1", 1, 45);
        faulty(SMALL + ";rule trick", 1, 45);
        faulty(SMALL + ";rule rule", 1, 45);
        faulty(SMALL + ";rule evening", 1, 45);
        faulty(SMALL + ";rule shows", 1, 45);
        faulty(SMALL + ";rule tilted", 1, 45);
        faulty(SMALL + ";rule abcdefghi suit", 1, 45);
        faulty(SMALL + ";rule a", 1, 46);
        faulty(SMALL + ";rule a suit table", 1, 52);
        faulty(SMALL + ";rule a keeps place tells low", 1, 53);
        faulty(SMALL + ";rule a keeps low tell gap", 1, 57);
        faulty(SMALL + ";rule a keeps low tells mid", 1, 63);
        faulty(SMALL + ";rule a keeps low tells", 1, 62);
        faulty(SMALL + ";evening shows 0", 1, 48);
        faulty(SMALL + ";evening 0 shows 0", 1, 50);
        faulty(SMALL + ";evening 0,1,2 shows 0", 1, 51);
        faulty(SMALL + ";evening 0,,1 shows 0", 1, 50);
        faulty(SMALL + ";evening 0,1 show 0", 1, 52);
        faulty(SMALL + ";evening 0,1 shows", 1, 57);
        faulty(SMALL + ";evening 0,1 shows 0,1", 1, 59);
        faulty(SMALL + ";evening 0,1 shows 0 tilted 0", 1, 60);
        faulty(SMALL + " tilts;evening 0,1 shows 0 tilted", 1, 72);
        faulty(SMALL + " tilts;evening 0,1 shows 0 tilted 0,", 1, 75);
        faulty(SMALL + " tilts;evening 0,1 shows 0 tilted 0 0", 1, 75);
    }

    private static void faultsByNumber() {
        promise = 4;
        // 3: told again
        faulty(SMALL + ";trick cards 4", 3, 40);
        faulty(SMALL + ";rule a suit;rule a suit", 3, 57);
        faulty(SMALL + ";rule a suit;rule b suit;rule b", 3, 69);
        faulty(SMALL + ";evening 0,0 shows 0", 3, 50);
        faulty(EIGHT + ";evening 0,1,2 shows 7,7", 3, 62);
        faulty(EIGHT + " tilts;evening 0,1,2 shows 7,6 tilted 1,1", 3, 79);
        due("an evening may be told again", tell(new FifthCard(), SMALL + ";evening 0,1 shows 0;evening 0,1 shows 0"), 0);
        // 4: out of bounds, or not as told
        faulty("trick cards 3", 4, 12);
        faulty("trick cards 13", 4, 12);
        faulty("trick cards 999 suits x", 4, 12);
        faulty("trick cards 8 suits 0", 4, 20);
        faulty("trick cards 10 suits 5", 4, 21);
        faulty("trick cards 8 suits 3", 4, 20);
        faulty("trick cards 8 suits 2 hand 1", 4, 27);
        faulty("trick cards 8 suits 2 hand 6", 4, 27);
        faulty("trick cards 4 suits 2 hand 5", 4, 27);
        faulty("trick cards 8 suits 2 hand 3 kept 0", 4, 34);
        faulty("trick cards 8 suits 2 hand 5 kept 3", 4, 34);
        faulty("trick cards 8 suits 2 hand 2 kept 2", 4, 34);
        faulty(SMALL + ";evening 0,4 shows 0", 4, 50);
        faulty(SMALL + ";evening 0,1 shows 4", 4, 58);
        faulty(EIGHT + " tilts;evening 0,1,2 shows 7,6 tilted 2", 4, 77);
        faulty(EIGHT + " tilts;evening 0,1,2 shows 7,6 tilted 1,0,3", 4, 81);
        faulty(EIGHT + " tilts;evening 0,1,2 shows 7,6 tilted 1,0,1", 3, 81);
        // 5: many
        String four = SMALL + ";rule a suit;rule b suit;rule c suit;rule d suit";
        faulty(four + ";rule", 5, four.length() + 1);
        faulty(four + ";rule a suit", 5, four.length() + 1);
        StringBuilder nine = new StringBuilder(SMALL);
        for (int i = 0; i < 9; i++) {
            nine.append(";evening 0,1 shows 0");
        }
        faulty(nine + ";evening x", 5, nine.length() + 1);
        faulty(nine + ";", 1, nine.length() + 1);
        // 6: lacks
        faulty("rule a suit;" + SMALL, 6, 0);
        faulty(" evening 0,1", 6, 1);
        // 7: hands
        faulty("trick cards 7 suits 1 hand 5 kept 1 stranger", 7, 36);
        faulty("trick cards 9 suits 1 hand 4 kept 1 stranger x", 7, 36);
        due("1,320 hands", tell(new FifthCard(), "trick cards 12 suits 1 hand 3 kept 1 stranger"), 0);
    }

    private static void faultsStay() {
        promise = 4;
        FifthCard x = new FifthCard();
        tell(x, "rule a suit");
        due("fault", x.fault(), 6);
        x.trick(5);
        due("the fault stays when a trick is refused by 2", x.fault(), 6);
        promise = 5;
        due("but it has no place then", x.where(), -1);
        tell(x, " rule a suit");
        due("where", x.where(), 1);
        x.feed(0, 0, 0, 0, 0);
        x.size(0);
        x.words(0);
        x.fault();
        x.trouble();
        ledThrows(x, 0, 0);
        due("where stays behind calls that aren't refused", x.where(), 1);
        x.hands();
        due("where goes with the next that may be", x.where(), -1);
        due("the fault doesn't", x.fault(), 6);
        x.trick(0);
        due("a fault at 0", x.where(), 0);
        tell(x, SMALL);
        due("no fault", x.fault(), 0);
        due("no place", x.where(), -1);
    }

    // ---- 6 to 13: hands, rows

    private static void handsAndRows() {
        FifthCard small = told(SMALL);
        FifthCard stranger = told(STRANGER);
        FifthCard tilts = told(TILTS);
        FifthCard held = told(HELD);
        promise = 6;
        due("hands", small.hands(), 6);
        due("hands of a stranger", stranger.hands(), 24);
        due("hands, held", held.hands(), 10);
        due("most hands of a stranger", told("trick cards 8 suits 1 hand 4 kept 1 stranger").hands(), 1680);
        due("most hands if she lays", told("trick cards 12 suits 1 hand 5 kept 1 she").hands(), 792);
        promise = 7;
        due("rows", small.rows(), 4);
        due("rows, two shown", told(EIGHT).rows(), 56);
        due("rows with tilts", tilts.rows(), 48);
        due("rows of a stranger", stranger.rows(), 8);
        due("rows, held, are all rows", held.rows(), 20);
        due("most rows", told("trick cards 12 suits 1 hand 5 kept 1 she tilts").rows(), 190080);
        promise = 8;
        int[][] sets = {{0, 1}, {0, 2}, {0, 3}, {1, 2}, {1, 3}, {2, 3}};
        for (int h = 0; h < 6; h++) {
            due("hand " + h, small.hand(h, 0) * 10 + small.hand(h, 1), sets[h][0] * 10 + sets[h][1]);
        }
        due("a stranger's hand 0", stranger.hand(0, 2), 2);
        due("a stranger's hand 1", stranger.hand(1, 2), 3);
        due("a stranger's hand 23", stranger.hand(23, 0) * 100 + stranger.hand(23, 1) * 10 + stranger.hand(23, 2), 321);
        refused(small, "hand -1", small.hand(-1, 0), 1);
        refused(small, "hand 6", small.hand(6, 0), 1);
        refused(small, "card -1", small.hand(0, -1), 1);
        refused(small, "card 2", small.hand(0, 2), 1);
        promise = 10;
        due("row 3", small.row(3, 0), 3);
        due("row 47's first", tilts.row(47, 0), 3);
        due("row 47's second", tilts.row(47, 1), 2);
        due("row 4's second", tilts.row(4, 1), 2);
        refused(small, "row -1", small.row(-1, 0), 1);
        refused(small, "row 4", small.row(4, 0), 1);
        refused(small, "card -1 of a row", small.row(0, -1), 1);
        refused(small, "card 1 of a row", small.row(0, 1), 1);
        promise = 11;
        due("not tilted", small.tilted(3), 0);
        due("no place", tilts.tilted(4), 0);
        due("the first place", tilts.tilted(5), 1);
        due("the second place", tilts.tilted(6), 2);
        due("both", tilts.tilted(47), 3);
        refused(tilts, "tilted -1", tilts.tilted(-1), 1);
        refused(tilts, "tilted 48", tilts.tilted(48), 1);
    }

    private static void handNumbers() {
        promise = 9;
        FifthCard x = told(EIGHT);
        due("first", x.handOf(0, 1, 2, -1, -1), 0);
        due("last", x.handOf(5, 6, 7, -1, -1), 55);
        due("in any order", x.handOf(7, 5, 6, -1, -1), 55);
        due("trouble", x.trouble(), 0);
        refused(x, "too few", x.handOf(0, 1, -1, -1, -1), 2);
        refused(x, "too many", x.handOf(0, 1, 2, 3, -1), 2);
        refused(x, "the last isn't -1", x.handOf(0, 1, 2, -1, 0), 2);
        refused(x, "-2 isn't -1", x.handOf(0, 1, 2, -2, -1), 2);
        refused(x, "twice the same", x.handOf(0, 1, 0, -1, -1), 2);
        refused(x, "no card 8", x.handOf(0, 1, 8, -1, -1), 2);
        refused(x, "no card 40", x.handOf(0, 1, 40, -1, -1), 2);
        refused(x, "no card -5", x.handOf(-5, 1, 2, -1, -1), 2);
        FifthCard y = told(STRANGER);
        due("as it lies", y.handOf(3, 0, 2, -1, -1), 19);
        due("as it lies otherwise", y.handOf(0, 2, 3, -1, -1), 3);
        FifthCard z = told("trick cards 12 suits 1 hand 5 kept 1 she");
        due("five cards", z.handOf(11, 10, 9, 8, 7), 791);
        refused(z, "five with one missing", z.handOf(11, 10, 9, 8, -1), 2);
        for (int h = 0; h < 792; h++) {
            due("hand of its own cards", z.handOf(z.hand(h, 4), z.hand(h, 0), z.hand(h, 3), z.hand(h, 1), z.hand(h, 2)), h);
        }
    }

    private static void fitting() {
        promise = 12;
        FifthCard x = told(EIGHT);
        due("rising", x.fits(0, 0), 1);
        due("falling", x.fits(0, 7), 1);
        due("another card", x.fits(0, 2), 0);
        FifthCard held = told(HELD);
        due("held, rising", held.fits(0, 0), 1);
        due("held, falling", held.fits(0, 4), 0);
        FifthCard stranger = told("trick cards 4 suits 1 hand 3 kept 1 stranger");
        due("as they lie", stranger.fits(0, 1), 1);
        due("not as they lie", stranger.fits(0, 3), 0);
        due("of 3 2 1: 3 1", stranger.fits(23, 10), 1);
        due("of 3 2 1: 1 2", stranger.fits(23, 4), 0);
        FifthCard tilts = told(TILTS);
        due("tilts fit alike", tilts.fits(0, 3), 1);
        refused(x, "no hand", x.fits(56, 0), 1);
        refused(x, "no hand -1", x.fits(-1, 0), 1);
        refused(x, "no row", x.fits(0, 56), 1);
        refused(x, "no row -1", x.fits(0, -1), 1);
        promise = 13;
        due("any order", x.fitting(), 6);
        due("held", held.fitting(), 3);
        due("stranger", stranger.fitting(), 3);
        due("tilts", tilts.fitting(), 24);
        due("four of five, tilts", told("trick cards 5 suits 1 hand 5 kept 1 she tilts").fitting(), 1920);
        due("one", told("trick cards 5 suits 1 hand 2 kept 1 she held").fitting(), 2);
    }

    // ---- 14 to 24: rules

    private static void laying() {
        promise = 14;
        FifthCard x = told(EIGHT + ";rule a keeps sum tells ring;rule b keeps low tells place");
        due("sum and ring", x.lays(0, 0), 8);
        due("sum and ring of the last", x.lays(0, 55), 55);
        refused(x, "no rule 2", x.lays(2, 0), 1);
        refused(x, "no rule -1", x.lays(-1, 0), 1);
        refused(x, "no hand 56", x.lays(0, 56), 1);
        refused(x, "no hand -1", x.lays(0, -1), 1);
        // 0 2 3 of 5, low kept: v 0, so 2 3 is not tilted; 1 2 3: v 1, so the first place is
        FifthCard held = told(HELD + " tilts;rule a keeps low tells place;rule b keeps high tells place");
        due("held", held.lays(0, held.handOf(0, 2, 3, -1, -1)), (2 * 4 + 2) * 4);
        due("held, told by tilts", held.lays(0, held.handOf(1, 2, 3, -1, -1)), (2 * 4 + 2) * 4 + 1);
        due("held, tilts round", held.lays(1, held.handOf(0, 1, 4, -1, -1)), 0);
        FifthCard stranger = told(STRANGER + ";rule g keeps high tells gap");
        due("stranger, two kept", stranger.lays(0, 19), 5);
        // 4 cards, 1 2 3 with 3 kept: v 3, two orders: 2 1, and 1 of the sets
        FifthCard tilts = told(TILTS + ";rule a keeps high tells place");
        due("order and tilts", tilts.lays(0, 3), (2 * 3 + 1) * 4 + 1);
    }

    /** Of 8 cards in two suits the hand 1 4 6, of which two are shown; v is odd if they fall. */
    private static void wordsOneByOne() {
        promise = 14;
        String[] keeps = {"low", "high", "mid", "sum"};
        String[] tells = {"place", "rank", "gap", "ring", "sum"};
        int[] keptCards = {1, 6, 4, 6};
        int[][] values = {{1, 1, 3, 0, 1}, {6, 2, 2, 1, 6}, {4, 0, 3, 1, 4}, {6, 2, 2, 1, 6}};
        int[][] shown = {{4, 6}, {1, 4}, {1, 6}, {1, 4}};
        for (int keep = 0; keep < 4; keep++) {
            for (int tell = 0; tell < 5; tell++) {
                FifthCard x = told(EIGHT + ";rule w keeps " + keeps[keep] + " tells " + tells[tell]);
                int h = x.handOf(1, 4, 6, -1, -1);
                int r = x.lays(0, h);
                String what = keeps[keep] + " " + tells[tell];
                boolean falls = values[keep][tell] % 2 == 1;
                due(what + " first", x.row(r, 0), shown[keep][falls ? 1 : 0]);
                due(what + " second", x.row(r, 1), shown[keep][falls ? 0 : 1]);
                due(what + " kept", x.kept(0, h, 0), keptCards[keep]);
                due(what + " words", x.words(0), 5 * keep + tell);
            }
        }
        // two kept of 1 2 4 5 out of 6: low 1 2, high 5 1, mid 2 4, sum (12 mod 4) 1 2; rank by 3
        int[][] two = {{1, 2}, {1, 5}, {2, 4}, {1, 2}};
        int[][] v = {{1 * 6 + 2, 1 * 6 + 2, 2 * 6 + 3, 0, 3 * 6 + 3}, {1 * 6 + 5, 1 * 6 + 2, 3 * 6 + 1, 0, 0},
            {2 * 6 + 4, 2 * 6 + 1, 1 * 6 + 3, 0, 0}, {1 * 6 + 2, 1 * 6 + 2, 2 * 6 + 3, 0, 3 * 6 + 3}};
        for (int keep = 0; keep < 4; keep++) {
            for (int tell = 0; tell < 5; tell++) {
                FifthCard x = told(TWO_KEPT + " tilts;rule w keeps " + keeps[keep] + " tells " + tells[tell]);
                int h = x.handOf(1, 2, 4, 5, -1);
                int r = x.lays(0, h);
                String what = "two: " + keeps[keep] + " " + tells[tell];
                due(what + " lesser", x.kept(0, h, 0), two[keep][0]);
                due(what + " greater", x.kept(0, h, 1), two[keep][1]);
                due(what + " order", x.row(r, 0) < x.row(r, 1) ? 0 : 1, v[keep][tell] % 2);
                due(what + " tilts", x.tilted(r), v[keep][tell] / 2 % 4);
            }
        }
    }

    private static void suitRule() {
        promise = 14;
        FifthCard x = told(EIGHT + ";rule s suit");
        due("0 1 2: 0, then 2", x.lays(0, 0), 1);
        due("0 3 5: 3, then 5", x.lays(0, x.handOf(0, 3, 5, -1, -1)), 25);
        due("0 2 5: no order 1 of one card", x.lays(0, x.handOf(0, 2, 5, -1, -1)), -2);
        FifthCard y = told("trick cards 12 suits 2 hand 4 kept 1 she;rule s suit");
        // 6 ranks: 0 3 are three apart, half of them: order 2 of two cards isn't there
        due("half", y.lays(0, y.handOf(0, 3, 7, 9, -1)), -2);
        // 0 4: two apart the other way: 4, then the second order of 7 9
        int h = y.handOf(0, 4, 7, 9, -1);
        int r = y.lays(0, h);
        due("base", y.row(r, 0), 4);
        due("second", y.row(r, 1), 9);
        due("third", y.row(r, 2), 7);
        due("kept", y.kept(0, h, 0), 0);
        // the first two of one suit: 1 and 2, though 7 and 8 would go as well
        h = y.handOf(1, 2, 7, 8, -1);
        due("the first two", y.kept(0, h, 0), 2);
        FifthCard four = told("trick cards 12 suits 4 hand 4 kept 1 she;rule s suit");
        due("no two of one suit", four.lays(0, four.handOf(0, 3, 6, 9, -1)), -2);
        FifthCard tilts = told(TILTS + ";rule s suit");
        due("nothing tilted", tilts.tilted(tilts.lays(0, 0)), 0);
        due("held: none", told(HELD + ";rule s suit").lays(0, 0), -2);
        due("stranger: none", told(STRANGER + ";rule s suit").lays(0, 0), -2);
        due("two kept: none", told(TWO_KEPT + ";rule s suit").lays(0, 0), -2);
    }

    private static void tableRule() {
        promise = 26;
        FifthCard none = told(SMALL + ";rule t table");
        due("none", none.table(0), -2);
        due("none is not refused", none.trouble(), 0);
        promise = 14;
        due("none laid", none.lays(0, 5), -2);
        promise = 26;
        // 0 1 2 of 3 cards shown, one kept: the least rows that leave others theirs
        FifthCard x = told("trick cards 4 suits 1 hand 3 kept 1 she;rule t table");
        int[] least = {0, 2, 1, 4};
        for (int h = 0; h < 4; h++) {
            due("table " + h, x.table(h), least[h]);
            promise = 14;
            due("laid by table " + h, x.lays(0, h), least[h]);
            promise = 26;
        }
        // 10 hands, 10 rows of one card: tilted or not
        FifthCard tight = told("trick cards 5 suits 1 hand 2 kept 1 she tilts;rule t table");
        boolean[] met = new boolean[10];
        for (int h = 0; h < 10; h++) {
            int r = tight.table(h);
            due("fits", tight.fits(h, r), 1);
            due("unlike", met[r], false);
            met[r] = true;
        }
        due("tight 0", tight.table(0), 0);
        due("tight 1", tight.table(1), 1);
        due("tight 2: 0 has no row left", tight.table(2), 6);
        // as many rows as hands, so that hardly one is free; by OracleTest's model, which tries all
        int[] eight = {0, 2, 3, 4, 5, 7, 1, 14, 18, 19, 6, 21, 25, 26, 27, 28, 33, 34, 35, 49, 42, 8, 10, 11, 12, 15, 9, 22,
            43, 13, 29, 46, 50, 36, 41, 48, 16, 23, 44, 20, 17, 30, 51, 37, 54, 55, 24, 31, 52, 40, 38, 45, 32, 39, 53, 47};
        FifthCard whole = told(EIGHT);
        for (int h = 0; h < 56; h++) {
            due("table of 56 " + h, whole.table(h), eight[h]);
        }
        refused(x, "no hand 4", x.table(4), 1);
        refused(x, "no hand -1", x.table(-1), 1);
        FifthCard many = told("trick cards 11 suits 1 hand 4 kept 1 she;rule t table");
        due("330 hands", many.hands(), 330);
        refused(many, "no room", many.table(0), 3);
        refused(many, "no hand comes first", many.table(330), 1);
        promise = 14;
        due("lays none", many.lays(0, 0), -2);
        promise = 20;
        due("fails all", many.fails(0), 330);
        promise = 26;
        // a stranger's 1 0 2 is shown as 0 2 ahead of 1 0
        FifthCard stranger = told("trick cards 4 suits 1 hand 3 kept 1 stranger tilts");
        due("the least row, not the first places", stranger.row(stranger.table(stranger.handOf(1, 0, 2, -1, -1)), 0), 0);
        due("252 hands have one", told("trick cards 10 suits 1 hand 5 kept 1 she tilts").table(251) >= 0, true);
    }

    private static void keeping() {
        promise = 15;
        FifthCard x = told(STRANGER + ";rule g keeps high tells gap");
        due("rising, first", x.kept(0, 19, 0), 0);
        due("rising, second", x.kept(0, 19, 1), 3);
        refused(x, "no third", x.kept(0, 19, 2), 1);
        refused(x, "none at -1", x.kept(0, 19, -1), 1);
        refused(x, "no rule", x.kept(1, 19, 0), 1);
        refused(x, "no hand", x.kept(0, 24, 0), 1);
        FifthCard y = told(SMALL + ";rule s suit");
        due("suit", y.kept(0, 0, 0), 1);
        refused(y, "it lays none", y.kept(0, 1, 0), 6);
        refused(y, "1 comes first", y.kept(0, 1, 1), 1);
    }

    private static void saying() {
        promise = 16;
        FifthCard x = told(SMALL + ";rule w keeps low tells place");
        // low is kept: the greater one is shown
        due("0 is never shown", x.says(0, 0), -2);
        due("trouble", x.trouble(), 0);
        due("1 by 0 1", x.says(0, 1), 0);
        due("2 by 0 2 first", x.says(0, 2), 1);
        due("3 by 0 3 first", x.says(0, 3), 2);
        refused(x, "no row", x.says(0, 4), 1);
        refused(x, "no row -1", x.says(0, -1), 1);
        refused(x, "no row -2", x.says(0, -2), 1);
        refused(x, "no rule", x.says(1, 0), 1);
    }

    private static void working() {
        FifthCard x = told(SMALL + ";rule s suit;rule t table;rule w keeps low tells place");
        FifthCard y = told(EIGHT + ";rule x keeps sum tells ring;rule t table");
        promise = 17;
        due("fails, so it doesn't work", x.works(0), 0);
        due("two alike, so it doesn't work", x.works(2), 0);
        due("it works", y.works(0), 1);
        due("the table works", y.works(1), 1);
        refused(y, "no rule", y.works(2), 1);
        promise = 18;
        due("no clash of none laid", x.clash(1, false), -2);
        due("the first laid like one ahead", x.clash(2, false), 3);
        due("that one", x.clash(2, true), 1);
        due("none", y.clash(0, false), -2);
        due("none ahead", y.clash(0, true), -2);
        refused(y, "no rule", y.clash(-1, false), 1);
        promise = 19;
        due("laid", x.laid(0), 2);
        due("none laid", x.laid(1), 0);
        due("unlike", x.laid(2), 3);
        due("all", y.laid(0), 56);
        refused(y, "no rule", y.laid(2), 1);
        promise = 20;
        due("fails", x.fails(0), 4);
        due("fails all", x.fails(1), 6);
        due("fails none", x.fails(2), 0);
        refused(x, "no rule", x.fails(3), 1);
    }

    private static void swaps() {
        promise = 21;
        FifthCard x = told("trick cards 4 suits 1 hand 3 kept 1 she;rule t table;rule r keeps low tells ring;rule p keeps low tells place");
        // ring of the lowest is always 0: only rising rows are laid
        due("rising rows only", x.seen(1), 1);
        // the table lays 0 1, 0 3, 0 2, 1 2
        due("table", x.seen(0), 1);
        FifthCard y = told(EIGHT + ";rule x keeps sum tells ring");
        due("all rows are laid", y.seen(0), 0);
        FifthCard z = told("trick cards 12 suits 4 hand 5 kept 2 she;rule s suit");
        due("none laid", z.seen(0), 1);
        due("one shown", told(SMALL + ";rule w keeps low tells place").seen(0), 1);
        refused(x, "no rule", x.seen(3), 1);
        promise = 22;
        // rows of two become their like alone, so that rising ones have nothing in common
        due("rising rows of two", x.borne(1), 1);
        due("not seen, not borne", y.borne(0), 0);
        due("none laid", z.borne(0), 1);
        FifthCard three = told("trick cards 5 suits 1 hand 4 kept 1 she;rule c keeps low tells ring;rule p keeps high tells place");
        // ring of the lowest is 0 here too: rising rows of unlike sets
        due("rising rows of three are seen", three.seen(0), 1);
        due("rising rows of three are borne", three.borne(0), 1);
        // 1 2 0 for 0 1 2 3, 2 0 1 for 0 1 2 4: both become 2 1 0
        due("seen though they meet", three.seen(1), 1);
        due("not borne since they meet", three.borne(1), 0);
        refused(x, "no rule", x.borne(3), 1);
        // 0' 1 for 0 1 2, 1' 0 for 0 1 3: the first becomes 1 0', which isn't laid
        promise = 21;
        due("tilts go along", told(TILTS + ";rule a keeps high tells place").seen(0), 1);
        due("and become one that is laid", told("trick cards 5 suits 1 hand 4 kept 2 she tilts;rule a keeps high tells place").seen(0), 0);
    }

    private static void wordsWorking() {
        promise = 23;
        FifthCard x = told(EIGHT);
        due("sum ring works without being told", x.wordsWork(18), 1);
        due("low place doesn't", x.wordsWork(0), 0);
        due("19", x.wordsWork(19), 0);
        refused(x, "20", x.wordsWork(20), 2);
        refused(x, "-1", x.wordsWork(-1), 2);
        promise = 24;
        due("the least", x.shortest(), 18);
        due("none", told(SMALL).shortest(), -2);
        // three hands for each row: with tilts, low and place do
        FifthCard y = told("trick cards 4 suits 1 hand 3 kept 1 she tilts");
        due("the first of all", y.shortest(), 0);
        due("it works", y.wordsWork(0), 1);
    }

    // ---- 25 to 28: any rule

    private static void pairing() {
        promise = 25;
        due("fewer rows", told(SMALL).pairs(), 4);
        due("as many", told(EIGHT).pairs(), 56);
        due("more rows", told("trick cards 4 suits 1 hand 3 kept 1 she").pairs(), 4);
        due("stranger", told(STRANGER).pairs(), 8);
        due("held: rising rows alone", told("trick cards 6 suits 1 hand 3 kept 1 she held").pairs(), 15);
        due("held, tilts", told("trick cards 6 suits 1 hand 3 kept 1 she held tilts").pairs(), 20);
        due("many hands", told("trick cards 8 suits 1 hand 4 kept 1 stranger").pairs(), 336);
    }

    private static void counting() {
        promise = 27;
        FifthCard x = told("trick cards 12 suits 1 hand 5 kept 1 she tilts");
        due("sets", x.count(12, false), 792);
        due("rows", x.count(12, true), 190080);
        due("sets of 200", x.count(200, false), 2535650040L);
        due("rows of 200", x.count(200, true), 200L * 199 * 198 * 197 * 16);
        x.count(4, false);
        due("as many as a hand", x.count(5, false), 1);
        due("not refused", x.trouble(), 0);
        refused(x, "fewer", x.count(4, false), 2);
        refused(x, "201", x.count(201, false), 2);
        refused(x, "-1", x.count(-1, true), 2);
        FifthCard s = told("trick cards 6 suits 1 hand 5 kept 2 stranger");
        due("stranger's hands", s.count(200, false), 200L * 199 * 198 * 197 * 196);
        due("stranger's rows", s.count(200, true), 200L * 199 * 198);
        FifthCard held = told(HELD + " tilts");
        due("rising alone, with tilts", held.count(5, true), 40);
        due("trouble", held.trouble(), 0);
        promise = 28;
        due("one of two", told(SMALL).most(), 3);
        due("two of three", told(EIGHT).most(), 8);
        due("three of four", told("trick cards 4 suits 1 hand 4 kept 1 she").most(), 27);
        due("four of five", told("trick cards 5 suits 1 hand 5 kept 1 she").most(), 124);
        due("no greater than 200", x.most(), 200);
        due("none", told("trick cards 4 suits 1 hand 3 kept 2 stranger").most(), -2);
        due("held", told("trick cards 5 suits 1 hand 5 kept 1 she held").most(), 9);
    }

    // ---- 29 to 37: evenings

    private static void evenings() {
        FifthCard x = told(SMALL + ";rule s suit;rule w keeps low tells place;evening 1,0 shows 0;evening 2,3 shows 1");
        promise = 29;
        due("it fits", x.judge(0), 1);
        due("it doesn't", x.judge(1), 0);
        refused(x, "none such", x.judge(2), 1);
        refused(x, "none such -1", x.judge(-1), 1);
        promise = 30;
        due("hand, in any order", x.evening(0, false), 0);
        due("row", x.evening(0, true), 0);
        due("hand of 1", x.evening(1, false), 5);
        due("row of 1", x.evening(1, true), 1);
        refused(x, "none such", x.evening(2, true), 1);
        FifthCard y = told(STRANGER + ";evening 3,0,2 shows 0 tilted 0;evening 3,0,2 shows 2");
        due("as it lay", y.evening(0, false), 19);
        due("tilted", y.evening(0, true), 1);
        due("not tilted", y.evening(1, true), 4);
        FifthCard z = told(TILTS + ";evening 0,1,2 shows 3,2 tilted 1;evening 0,1,2 shows 2,1 tilted 1,0");
        due("the second tilted", z.evening(0, true), 46);
        due("both tilted", z.evening(1, true), (2 * 3 + 1) * 4 + 3);
        promise = 31;
        due("agrees", x.agrees(0), 1);
        due("doesn't", x.agrees(1), 0);
        refused(x, "no rule", x.agrees(2), 1);
        promise = 32;
        due("the first wrong", x.wrong(0), 1);
        due("the first wrong of the other", x.wrong(1), 0);
        due("all agree", told(SMALL + ";rule s suit").wrong(0), -2);
        refused(x, "no rule", x.wrong(2), 1);
        promise = 33;
        due("none", x.found(), 0);
        x.strike();
        due("the first", x.found(), 1);
        x.strike();
        due("both without evenings", x.found(), 3);
        due("no rules", told(SMALL).found(), 0);
    }

    private static void telling() {
        promise = 34;
        FifthCard x = told(SMALL + ";rule s suit;rule t table;rule w keeps low tells place;rule x keeps sum tells ring");
        due("0 3", x.apart(0, 3), 4);
        due("3 0", x.apart(3, 0), 4);
        due("both none isn't unlike", x.apart(0, 1), 2);
        due("one lays none", x.apart(1, 2), 6);
        refused(x, "the same", x.apart(1, 1), 1);
        refused(x, "no rule", x.apart(0, 4), 1);
        refused(x, "no rule -1", x.apart(-1, 0), 1);
        promise = 35;
        due("upper", x.mean(0, 3, false), 3);
        due("lower", x.mean(0, 3, true), 2);
        due("upper whole", x.mean(0, 1, false), 3);
        due("lower whole", x.mean(0, 1, true), 1);
        due("all", x.mean(1, 2, false), 1);
        refused(x, "the same", x.mean(2, 2, false), 1);
        refused(x, "no rule", x.mean(4, 0, false), 1);
        FifthCard same = told(SMALL + ";rule a suit;rule b suit");
        refused(same, "never", same.mean(0, 1, true), 6);
        due("apart 0", same.apart(0, 1), 0);
        promise = 36;
        due("the first of the hardest", x.hardest(), 0);
        due("2 and 3 are alike", told(SMALL + ";rule t table;rule w keeps low tells place;rule s suit;rule z suit").hardest(), 2);
        FifthCard one = told(SMALL + ";rule s suit");
        refused(one, "one rule", one.hardest(), 6);
        FifthCard none = told(SMALL);
        refused(none, "no rules", none.hardest(), 6);
    }

    private static void showing() {
        promise = 37;
        FifthCard x = told(SMALL + ";rule s suit;rule w keeps low tells place;evening 0,1 shows 0");
        due("its number", x.shows(1, 3), 1);
        due("its hand", x.evening(1, false), 3);
        due("its row", x.evening(1, true), 2);
        refused(x, "it lays none", x.shows(0, 1), 6);
        refused(x, "no rule", x.shows(2, 0), 1);
        refused(x, "no hand", x.shows(0, 6), 1);
        for (int e = 2; e < 20; e++) {
            due("its number", x.shows(1, e % 6), e);
        }
        refused(x, "20 are", x.shows(1, 0), 3);
        refused(x, "6 comes first", x.shows(0, 1), 6);
        refused(x, "1 comes first", x.shows(0, 6), 1);
        due("20", x.size(8), 20);
    }

    // ---- 38 to 42: draws, images

    private static void drawing() {
        promise = 38;
        FifthCard x = told(SMALL);
        due("seed", x.seed(65536), true);
        due("it is", x.size(9), 65536);
        due("trouble", x.trouble(), 0);
        due("65537", x.seed(65537), false);
        due("trouble", x.trouble(), 2);
        due("-1", x.seed(-1), false);
        due("trouble", x.trouble(), 2);
        due("it stays", x.size(9), 65536);
        promise = 39;
        due("(75 * 65536 + 74) mod 65537 is 65536", x.draw(), 65536 % 6);
        x.seed(5);
        due("449 mod 6", x.draw(), 5);
        due("seed", x.size(9), 449);
        due("next", x.draw(), (75 * 449 + 74) % 65537 % 6);
        promise = 40;
        FifthCard y = told(SMALL + ";evening 0,1 shows 0;evening 0,1 shows 1");
        due("strike", y.strike(), true);
        due("one is left", y.size(8), 1);
        due("the first", y.evening(0, true), 0);
        due("strike", y.strike(), true);
        due("trouble", y.trouble(), 0);
        due("none is left", y.strike(), false);
        due("trouble", y.trouble(), 6);
    }

    private static void imaging() {
        FifthCard x = told(SMALL + ";rule w keeps low tells place;evening 0,1 shows 0");
        promise = 41;
        x.seed(7);
        due("image 0", x.image(), 0);
        x.shows(0, 2);
        x.seed(8);
        due("image 1", x.image(), 1);
        x.strike();
        x.strike();
        x.draw();
        due("image 2", x.image(), 2);
        refused(x, "no room", x.image(), 3);
        due("three", x.size(10), 3);
        promise = 42;
        due("back", x.back(1), true);
        due("evenings", x.size(8), 2);
        due("the second one", x.evening(1, false), 2);
        due("its row", x.evening(1, true), 3);
        due("seed", x.size(9), 8);
        x.strike();
        x.shows(0, 5);
        due("back again", x.back(1), true);
        due("as it was", x.evening(1, false), 2);
        due("back to the first", x.back(0), true);
        due("one evening", x.size(8), 1);
        due("its seed", x.size(9), 7);
        due("all images stay", x.size(10), 3);
        due("and to the last", x.back(2), true);
        due("no evening", x.size(8), 0);
        due("none such", x.back(3), false);
        due("trouble", x.trouble(), 1);
        due("none such -1", x.back(-1), false);
        due("trouble", x.trouble(), 1);
        tell(x, SMALL);
        due("no images of another trick", x.back(0), false);
    }

    // ---- 43 to 46

    private static void leading() {
        promise = 43;
        FifthCard x = told(SMALL + ";rule s suit;rule w keeps low tells place");
        x.shows(0, 1);
        due("first", leads(x, 0, 0, 1), true);
        due("last", leads(x, 0, 3, 4), true);
        due("none behind", ledThrows(x, 0, 4), true);
        due("none at -1", ledThrows(x, 0, -1), true);
        due("none at all", ledThrows(x, 1, 0), true);
        due("no rule", ledThrows(x, 2, 0), true);
        due("no rule -1", ledThrows(x, -1, 0), true);
        due("no trouble of its own", x.trouble(), 6);
    }

    private static void sizes() {
        promise = 44;
        FifthCard x = told("trick cards 12 suits 4 hand 5 kept 2 she held tilts;rule a suit;evening 0,1,2,3,4 shows 0,1,2");
        x.seed(11);
        x.image();
        feed(x, "x");
        int[] sizes = {12, 4, 5, 2, 0, 1, 1, 1, 1, 11, 1, 20};
        for (int what = 0; what < 12; what++) {
            due("size " + what, x.size(what), sizes[what]);
        }
        due("size -1", x.size(-1), -1);
        due("size 12", x.size(12), -1);
        FifthCard y = told(STRANGER);
        due("stranger", y.size(4), 1);
        due("not held", y.size(5), 0);
        due("tilts", y.size(6), 1);
        due("no tilts", told(SMALL).size(6), 0);
        promise = 45;
        FifthCard z = told(SMALL + ";rule s suit;rule t table;rule w keeps high tells ring;rule v keeps sum tells sum");
        due("suit", z.words(0), 20);
        due("table", z.words(1), 21);
        due("high ring", z.words(2), 8);
        due("sum sum", z.words(3), 19);
        due("none 4", z.words(4), -1);
        due("none -1", z.words(-1), -1);
    }

    private static void troubles() {
        promise = 46;
        FifthCard x = told(SMALL + ";rule s suit");
        due("none", x.trouble(), 0);
        x.hand(9, 9);
        due("1", x.trouble(), 1);
        x.size(99);
        x.words(99);
        x.fault();
        x.where();
        x.feed(1, 1, 1, 1, 1);
        due("1 still", x.trouble(), 1);
        x.hands();
        due("0 again", x.trouble(), 0);
        x.count(999, true);
        due("2", x.trouble(), 2);
        x.kept(0, 1, 0);
        due("6", x.trouble(), 6);
        x.trick(3);
        due("4", x.trouble(), 4);
        x.strike();
        due("6 of strike", x.trouble(), 6);
        x.seed(0);
        due("0 of seed", x.trouble(), 0);
        x.image();
        x.image();
        x.image();
        x.image();
        due("3", x.trouble(), 3);
        x.back(0);
        due("0 of back", x.trouble(), 0);
    }
}
