/**
 * Terms II and III, HANDS, ROWS, RULES, counts: each sentence that names a boundary, by the last on
 * this side and the first beyond.
 */
public final class RuleBoundsTest extends Trial {
    private static final String SHE = "trick cards 4 suits 1 hand 3 kept 1 she";
    private static final String STRANGER = "trick cards 4 suits 1 hand 3 kept 1 stranger";
    /** Three CARDS shown: six orders, eight sets of tilts, so that v up to 47 can be told from the ROW. */
    private static final String TWELVE = "trick cards 12 suits 1 hand 4 kept 1 she tilts";
    private static final String TWO_KEPT = "trick cards 12 suits 1 hand 5 kept 2 she tilts";

    public static void main(String[] args) {
        cardsUpToN();
        ranksAreNBySuits();
        suitByRanksDownwards();
        shownIsHandLessKept();
        handsIfSheLays();
        handsOfAStranger();
        rowsOfUnlikeCards();
        rowsWithTilts();
        fitsIfSheLays();
        fitsIfHeld();
        fitsIfAStranger();
        keptRising();
        keepLow();
        keepHigh();
        keepMid();
        keepSum();
        keepNextRound();
        keepOfCardsRising();
        tellPlace();
        tellRank();
        tellGapRound();
        tellRingDownwards();
        tellSumModN();
        twoKeptTimesN();
        ordersRound();
        tiltsByOrders();
        heldOneOrder();
        strangerOneOrder();
        tiltsOfOneOrder();
        suitElseNone();
        suitFirstTwo();
        suitHalfOfRanks();
        suitNoSuchOrder();
        suitNoTwo();
        suitNothingTilted();
        tableLeast();
        tablesWhole();
        tableNone();
        tableUpTo300();
        worksEachHand();
        worksNoTwoTheSame();
        pairsMost();
        countFromHandTo200();
        countHeldRising();
        countTilts();
        mostUpTo200();
        mostNoMoreHands();
        wordsNumbers();
        seenBesideEachOther();
        seenWithTilts();
        borneMoreover();
        agreesWithThatRow();
        apartUnlikeRows();
        apartOneLaysNone();
        meanHandsByThese();
        imagesUpTo3();
        imagesKeep();
        finish();
    }

    // ---- what the tests here ask again and again

    /** The v by which a ROW was laid: the number of its order among all, and the sets of tilts behind. */
    private static int valueTold(FifthCard x, int rule, int... cards) {
        int r = x.lays(rule, handOf(x, cards));
        int shown = x.size(2) - x.size(3);
        int order = 0;
        int orders = 1;
        for (int i = 0; i < shown; i++) {
            int lower = 0;
            for (int j = i + 1; j < shown; j++) {
                lower += x.row(r, j) < x.row(r, i) ? 1 : 0;
            }
            order = order * (shown - i) + lower;
            orders *= i + 1;
        }
        return order + orders * x.tilted(r);
    }

    private static String allHands(FifthCard x) {
        StringBuilder s = new StringBuilder();
        for (int h = 0; h < x.hands(); h++) {
            s.append(h > 0 ? ", " : "").append(handText(x, h));
        }
        return s.toString();
    }

    private static String allRows(FifthCard x) {
        StringBuilder s = new StringBuilder();
        for (int r = 0; r < x.rows(); r++) {
            s.append(r > 0 ? ", " : "").append(rowText(x, r));
        }
        return s.toString();
    }

    /** The ROWS that FIT the HAND of these CARDS. */
    private static String rowsFor(FifthCard x, int... cards) {
        int h = handOf(x, cards);
        StringBuilder s = new StringBuilder();
        for (int r = 0; r < x.rows(); r++) {
            if (x.fits(h, r) == 1) {
                s.append(s.length() > 0 ? ", " : "").append(rowText(x, r));
            }
        }
        return s.toString();
    }

    /** The ROWS that a RULE LAYS, by HANDS. */
    private static String allLaid(FifthCard x, int rule) {
        StringBuilder s = new StringBuilder();
        for (int h = 0; h < x.hands(); h++) {
            s.append(h > 0 ? ", " : "").append(rowText(x, x.lays(rule, h)));
        }
        return s.toString();
    }

    // ---- term II: CARDS, HANDS, ROWS

    private static void cardsUpToN() {
        sentence("term II", "CARDS 0 .. N - 1");
        for (int n = 4; n <= 12; n++) {
            FifthCard x = told("trick cards " + n + " suits 1 hand 2 kept 1 she");
            due("the least CARD", x.hand(0, 0), 0);
            due("the greatest CARD", x.hand(x.hands() - 1, 1), n - 1);
            due("the least ROW", x.row(0, 0), 0);
            due("the greatest ROW", x.row(x.rows() - 1, 0), n - 1);
            due("ROWS of one CARD", x.rows(), n);
            due("0 and N - 1", handOf(x, 0, n - 1), n - 2);
            due("N is none", handOf(x, 0, n), -1);
            due("N: trouble()", x.trouble(), 2);
        }
    }

    private static void ranksAreNBySuits() {
        sentence("term II", "RANKS are N by suits; .. its rank the rest");
        int[] ranks = {0, 12, 6, 4, 3};
        for (int suits = 1; suits <= 4; suits++) {
            FifthCard x = told("trick cards 12 suits " + suits + " hand 4 kept 1 she tilts;rule r keeps high tells rank");
            for (int card = 3; card < 12; card++) {
                due("rank of " + card + ", suits " + suits, valueTold(x, 0, 0, 1, 2, card), card % ranks[suits]);
            }
        }
    }

    private static void suitByRanksDownwards() {
        sentence("term II", "its suit is a CARD by RANKS, downwards");
        int[] ranks = {0, 12, 6, 4, 3};
        for (int suits = 1; suits <= 4; suits++) {
            FifthCard x = told("trick cards 12 suits " + suits + " hand 2 kept 1 she;rule s suit");
            for (int card = 0; card < 11; card++) {
                // the next CARD is of the same suit, but for the last of each
                boolean last = card % ranks[suits] == ranks[suits] - 1;
                same(card + " and the next, suits " + suits, laidFor(x, 0, card, card + 1), last ? "-2" : "" + card);
            }
        }
    }

    private static void shownIsHandLessKept() {
        sentence("term II", "SHOWN: hand less kept");
        for (int hand = 2; hand <= 5; hand++) {
            for (int kept = 1; kept <= 2 && kept < hand; kept++) {
                FifthCard x = told("trick cards 6 suits 1 hand " + hand + " kept " + kept + " she");
                int shown = hand - kept;
                due("the last CARD shown", x.row(0, shown - 1), shown - 1);
                due("none behind", x.row(0, shown), -1);
                due("tilted places", told("trick cards 6 suits 1 hand " + hand + " kept " + kept + " she tilts")
                    .tilted((1 << shown) - 1), (1 << shown) - 1);
            }
        }
    }

    private static void handsIfSheLays() {
        sentence("term II", "HANDS: if she lays: all sets, as rows rising, by their first CARD, then the second, and so on");
        same("sets of two", allHands(told(SMALL)), "0 1, 0 2, 0 3, 1 2, 1 3, 2 3");
        same("held likewise", allHands(told(SMALL + " held")), "0 1, 0 2, 0 3, 1 2, 1 3, 2 3");
        same("sets of three", allHands(told("trick cards 5 suits 1 hand 3 kept 1 she")),
            "0 1 2, 0 1 3, 0 1 4, 0 2 3, 0 2 4, 0 3 4, 1 2 3, 1 2 4, 1 3 4, 2 3 4");
        same("all CARDS", allHands(told("trick cards 4 suits 1 hand 4 kept 1 she")), "0 1 2 3");
        FifthCard x = told("trick cards 12 suits 1 hand 5 kept 1 she");
        due("how many", x.hands(), 792);
        same("the first", handText(x, 0), "0 1 2 3 4");
        same("the last with 0", handText(x, 329), "0 8 9 10 11");
        same("the first without", handText(x, 330), "1 2 3 4 5");
        same("the last", handText(x, 791), "7 8 9 10 11");
    }

    private static void handsOfAStranger() {
        sentence("term II", "of a stranger: all rows of unlike CARDS likewise");
        same("rows of two", allHands(told("trick cards 4 suits 1 hand 2 kept 1 stranger")),
            "0 1, 0 2, 0 3, 1 0, 1 2, 1 3, 2 0, 2 1, 2 3, 3 0, 3 1, 3 2");
        FifthCard x = told("trick cards 8 suits 1 hand 4 kept 1 stranger");
        due("how many", x.hands(), 1680);
        same("the first", handText(x, 0), "0 1 2 3");
        same("the last with 0 ahead", handText(x, 209), "0 7 6 5");
        same("the first with 1 ahead", handText(x, 210), "1 0 2 3");
        same("the last", handText(x, 1679), "7 6 5 4");
        same("all CARDS", handText(told("trick cards 5 suits 1 hand 5 kept 1 stranger"), 119), "4 3 2 1 0");
    }

    private static void rowsOfUnlikeCards() {
        sentence("term II", "ROWS: all rows of unlike CARDS, as many as SHOWN, likewise");
        String two = "0 1, 0 2, 0 3, 1 0, 1 2, 1 3, 2 0, 2 1, 2 3, 3 0, 3 1, 3 2";
        same("if she lays", allRows(told(SHE)), two);
        same("held: all of them, too", allRows(told(SHE + " held")), two);
        same("of a stranger", allRows(told(STRANGER)), two);
        same("one shown", allRows(told(SMALL)), "0, 1, 2, 3");
        FifthCard x = told("trick cards 12 suits 1 hand 5 kept 1 she");
        due("how many", x.rows(), 11880);
        same("the last with 0 ahead", rowText(x, 989), "0 11 10 9");
        same("the first with 1 ahead", rowText(x, 990), "1 0 2 3");
        same("the last", rowText(x, 11879), "11 10 9 8");
    }

    private static void rowsWithTilts() {
        sentence("term II", "with tilts each with each set of places tilted: number times 2 to SHOWN, and 2 to each place tilted");
        same("one shown", allRows(told(SMALL + " tilts")), "0, 0', 1, 1', 2, 2', 3, 3'");
        FifthCard two = told(SHE + " tilts");
        due("two shown", two.rows(), 48);
        String[] due = {"0 1", "0' 1", "0 1'", "0' 1'", "0 2", "0' 2"};
        for (int r = 0; r < due.length; r++) {
            same("ROW " + r, rowText(two, r), due[r]);
        }
        same("the last of two", rowText(two, 47), "3' 2'");
        FifthCard four = told("trick cards 12 suits 1 hand 5 kept 1 she tilts");
        due("four shown", four.rows(), 190080);
        same("the third place", rowText(four, 4), "0 1 2' 3");
        same("the fourth place", rowText(four, 8), "0 1 2 3'");
        same("all places", rowText(four, 15), "0' 1' 2' 3'");
        same("the next number", rowText(four, 16), "0 1 2 4");
        same("the last of four", rowText(four, 190079), "11' 10' 9' 8'");
    }

    private static void fitsIfSheLays() {
        sentence("term II", "A ROW FITS a HAND: she: all its CARDS are of it");
        FifthCard x = told(SHE);
        same("of 0 1 2", rowsFor(x, 0, 1, 2), "0 1, 0 2, 1 0, 1 2, 2 0, 2 1");
        same("of 1 2 3", rowsFor(x, 1, 2, 3), "1 2, 1 3, 2 1, 2 3, 3 1, 3 2");
        due("as many as fitting()", x.fitting(), 6);
        same("with tilts", rowsFor(told(SMALL + " tilts"), 0, 3), "0, 0', 3, 3'");
        due("all CARDS, four of five shown", told("trick cards 5 suits 1 hand 5 kept 1 she").fitting(), 120);
    }

    private static void fitsIfHeld() {
        sentence("term II", "(held: rising)");
        FifthCard x = told(SHE + " held");
        same("of 0 1 2", rowsFor(x, 0, 1, 2), "0 1, 0 2, 1 2");
        same("of 1 2 3", rowsFor(x, 1, 2, 3), "1 2, 1 3, 2 3");
        due("as many as fitting()", x.fitting(), 3);
        same("one is always rising", rowsFor(told(SMALL + " held"), 0, 3), "0, 3");
        FifthCard three = told("trick cards 5 suits 1 hand 4 kept 1 she held");
        same("rising to the last", rowsFor(three, 0, 1, 2, 4), "0 1 2, 0 1 4, 0 2 4, 1 2 4");
    }

    private static void fitsIfAStranger() {
        sentence("term II", "stranger: it is the HAND with some left out");
        FifthCard x = told(STRANGER);
        same("of 2 0 1", rowsFor(x, 2, 0, 1), "0 1, 2 0, 2 1");
        same("of 3 1 0", rowsFor(x, 3, 1, 0), "1 0, 3 0, 3 1");
        same("of 0 1 2", rowsFor(x, 0, 1, 2), "0 1, 0 2, 1 2");
        due("as many as fitting()", x.fitting(), 3);
        FifthCard two = told("trick cards 5 suits 1 hand 4 kept 2 stranger");
        same("two left out", rowsFor(two, 4, 0, 3, 1), "0 1, 0 3, 3 1, 4 0, 4 1, 4 3");
        due("as many of them", two.fitting(), 6);
    }

    private static void keptRising() {
        sentence("term II", "KEPT: CARDS of the HAND not in the ROW, rising");
        FifthCard x = told("trick cards 4 suits 1 hand 3 kept 2 stranger;rule g keeps high tells place");
        same("3 and, round, 0", keptOf(x, 0, 3, 0, 2), "0 3");
        same("in any order of the HAND", keptOf(x, 0, 2, 0, 3), "0 3");
        same("0 ahead of 3 there", keptOf(x, 0, 0, 3, 2), "0 3");
        same("of a table, too", keptOf(told(SHE + ";rule t table"), 0, 1, 2, 3), "3");
    }

    // ---- term II: KEEP

    private static void keepLow() {
        sentence("term II", "low the least");
        FifthCard x = told(TWELVE + ";rule r keeps low tells place");
        same("of the least four", keptOf(x, 0, 0, 1, 2, 3), "0");
        same("of the greatest four", keptOf(x, 0, 8, 9, 10, 11), "8");
    }

    private static void keepHigh() {
        sentence("term II", "high the greatest");
        FifthCard x = told(TWELVE + ";rule r keeps high tells place");
        same("of the least four", keptOf(x, 0, 0, 1, 2, 3), "3");
        same("of the greatest four", keptOf(x, 0, 8, 9, 10, 11), "11");
    }

    private static void keepMid() {
        sentence("term II", "mid the one with (k less kept) by 2, downwards, ahead of it");
        int[][] all = {{0, 1}, {0, 1, 2}, {0, 1, 2, 3}, {0, 1, 2, 3, 4}};
        String[] one = {"0", "1", "1", "2"};
        String[] two = {"", "0 1", "1 2", "1 2"};
        for (int hand = 2; hand <= 5; hand++) {
            String head = "trick cards 6 suits 1 hand " + hand + " kept ";
            String rule = " she;rule m keeps mid tells place";
            same("one of " + hand, keptOf(told(head + 1 + rule), 0, all[hand - 2]), one[hand - 2]);
            if (hand > 2) {
                same("two of " + hand, keptOf(told(head + 2 + rule), 0, all[hand - 2]), two[hand - 2]);
            }
        }
    }

    private static void keepSum() {
        sentence("term II", "sum the one with as many ahead as all CARDS together mod k");
        FifthCard three = told("trick cards 12 suits 1 hand 3 kept 1 she;rule s keeps sum tells place");
        same("3 mod 3", keptOf(three, 0, 0, 1, 2), "0");
        same("4 mod 3", keptOf(three, 0, 0, 1, 3), "1");
        same("5 mod 3", keptOf(three, 0, 0, 1, 4), "4");
        same("6 mod 3", keptOf(three, 0, 0, 1, 5), "0");
        same("30 mod 3", keptOf(three, 0, 9, 10, 11), "9");
        FifthCard five = told("trick cards 12 suits 1 hand 5 kept 1 she;rule s keeps sum tells place");
        same("44 mod 5", keptOf(five, 0, 6, 8, 9, 10, 11), "11");
        same("45 mod 5", keptOf(five, 0, 7, 8, 9, 10, 11), "7");
        FifthCard two = told("trick cards 12 suits 1 hand 2 kept 1 she;rule s keeps sum tells place");
        same("1 mod 2", keptOf(two, 0, 0, 1), "1");
        same("2 mod 2", keptOf(two, 0, 0, 2), "0");
    }

    private static void keepNextRound() {
        sentence("term II", "with two kept also the next of them, round");
        FifthCard x = told(TWO_KEPT + ";rule l keeps low tells place;rule h keeps high tells place;"
            + "rule m keeps mid tells place;rule s keeps sum tells place");
        same("low", keptOf(x, 0, 0, 1, 2, 3, 11), "0 1");
        same("high, round", keptOf(x, 1, 0, 1, 2, 3, 11), "0 11");
        same("mid", keptOf(x, 2, 0, 1, 2, 3, 11), "1 2");
        same("sum, 10 mod 5", keptOf(x, 3, 0, 1, 2, 3, 4), "0 1");
        same("sum, 13 mod 5", keptOf(x, 3, 0, 1, 2, 3, 7), "3 7");
        same("sum, 14 mod 5, round", keptOf(x, 3, 0, 1, 2, 3, 8), "0 8");
        FifthCard three = told("trick cards 4 suits 1 hand 3 kept 2 she;rule h keeps high tells place");
        same("high of three", keptOf(three, 0, 1, 2, 3), "1 3");
    }

    private static void keepOfCardsRising() {
        sentence("term II", "KEEP, of all CARDS of the HAND rising");
        FifthCard x = told(STRANGER + ";rule l keeps low tells place;rule h keeps high tells place;"
            + "rule m keeps mid tells place;rule s keeps sum tells place");
        same("low of 3 0 2", laidFor(x, 0, 3, 0, 2), "3 2");
        same("high of 3 0 2", laidFor(x, 1, 3, 0, 2), "0 2");
        same("mid of 3 0 2", laidFor(x, 2, 3, 0, 2), "3 0");
        same("sum of 3 0 2: 5 mod 3", laidFor(x, 3, 3, 0, 2), "0 2");
    }

    // ---- term II: TELL

    private static void tellPlace() {
        sentence("term II", "place: itself");
        FifthCard x = told(TWELVE + ";rule l keeps low tells place;rule h keeps high tells place");
        due("0", valueTold(x, 0, 0, 1, 2, 3), 0);
        due("8", valueTold(x, 0, 8, 9, 10, 11), 8);
        due("11", valueTold(x, 1, 0, 1, 2, 11), 11);
    }

    private static void tellRank() {
        sentence("term II", "TELL of a CARD kept: .. rank");
        FifthCard x = told("trick cards 12 suits 4 hand 5 kept 2 she tilts;rule r keeps low tells rank");
        due("of 0 and 5", valueTold(x, 0, 0, 5, 9, 10, 11), 2);
        due("of 2 and 3, the last of a suit and the first of the next", valueTold(x, 0, 2, 3, 9, 10, 11), 24);
        due("of 5 and 8, both the last", valueTold(x, 0, 5, 8, 9, 10, 11), 26);
    }

    private static void tellGapRound() {
        sentence("term II", "gap: how far it is above the next CARD shown below it, round (N)");
        FifthCard x = told(TWELVE + ";rule l keeps low tells gap;rule h keeps high tells gap");
        due("beside it", valueTold(x, 1, 0, 1, 2, 3), 1);
        due("far below", valueTold(x, 1, 0, 1, 2, 11), 9);
        due("0 above 11, round", valueTold(x, 0, 0, 3, 7, 11), 1);
        due("3 above 6, round", valueTold(x, 0, 3, 4, 5, 6), 9);
        due("5 above 0, the least CARD", valueTold(told(TWELVE + ";rule m keeps mid tells gap"), 0, 0, 5, 6, 7), 5);
        // one shown: gaps of 11, the greatest, of 10, and of 1; odd ones are tilted
        FifthCard two = told("trick cards 12 suits 1 hand 2 kept 1 she tilts;rule l keeps low tells gap");
        same("0 above 1, round", laidFor(two, 0, 0, 1), "1'");
        same("0 above 2, round", laidFor(two, 0, 0, 2), "2");
        same("0 above 11, round", laidFor(two, 0, 0, 11), "11'");
        // the other CARD kept isn't shown: 3 and 4 above 11 are 4 and 5, 53 together
        due("3 and 4 above 11", valueTold(told(TWO_KEPT + ";rule l keeps low tells gap"), 0, 3, 4, 9, 10, 11), 53 % 48);
    }

    private static void tellRingDownwards() {
        sentence("term II", "ring: how many CARDS not shown are below it, by k, downwards");
        FifthCard x = told(TWELVE + ";rule h keeps high tells ring");
        due("none below 3", valueTold(x, 0, 0, 1, 2, 3), 0);
        due("three below 6", valueTold(x, 0, 0, 1, 2, 6), 0);
        due("four below 7", valueTold(x, 0, 0, 1, 2, 7), 1);
        due("seven below 10", valueTold(x, 0, 0, 1, 2, 10), 1);
        due("eight below 11", valueTold(x, 0, 0, 1, 2, 11), 2);
        FifthCard two = told(TWO_KEPT + ";rule l keeps low tells ring");
        due("four below 4, the other one kept among them", valueTold(two, 0, 0, 4, 9, 10, 11), 0);
        due("five below 5, the other one kept among them", valueTold(two, 0, 0, 5, 9, 10, 11), 1);
        due("five below 5, and six below 6", valueTold(two, 0, 5, 6, 9, 10, 11), 13);
    }

    private static void tellSumModN() {
        sentence("term II", "sum: all CARDS kept together mod N");
        due("11", valueTold(told(TWELVE + ";rule h keeps high tells sum"), 0, 0, 1, 2, 11), 11);
        FifthCard two = told(TWO_KEPT + ";rule l keeps low tells sum");
        due("5 and 6: 11, twice", valueTold(two, 0, 5, 6, 9, 10, 11), 143 % 48);
        due("5 and 7: 12, so 0", valueTold(two, 0, 5, 7, 9, 10, 11), 0);
        due("5 and 8: 13, so 1, twice", valueTold(two, 0, 5, 8, 9, 10, 11), 13);
    }

    private static void twoKeptTimesN() {
        sentence("term II", "v is that (with two kept: of the lesser times N and that of the greater)");
        FifthCard x = told(TWO_KEPT + ";rule l keeps low tells place;rule h keeps high tells place");
        due("0 and 1", valueTold(x, 0, 0, 1, 2, 3, 4), 1);
        due("1 and 2", valueTold(x, 0, 1, 2, 9, 10, 11), 14);
        due("3 and 4", valueTold(x, 0, 3, 4, 9, 10, 11), 40);
        due("0 and 11, though 11 is the first kept", valueTold(x, 1, 0, 1, 2, 3, 11), 11);
        due("3 and 11", valueTold(x, 1, 3, 4, 5, 6, 11), 47);
        // N, not twelve: 1 and 2 of six
        FifthCard six = told("trick cards 6 suits 1 hand 5 kept 2 she tilts;rule l keeps low tells place");
        due("1 and 2 of six", valueTold(six, 0, 1, 2, 3, 4, 5), 8);
    }

    // ---- term II: the ROW by v

    private static void ordersRound() {
        sentence("term II", "She, not held: the v mod n-th (from 0 on) of all n orders of those shown, by rows as above");
        FifthCard three = told("trick cards 12 suits 1 hand 4 kept 1 she;rule h keeps high tells place;rule l keeps low tells place");
        same("v 0", laidFor(three, 1, 0, 1, 2, 3), "1 2 3");
        same("v 1", laidFor(three, 1, 1, 2, 3, 4), "2 4 3");
        same("v 3", laidFor(three, 0, 0, 1, 2, 3), "1 2 0");
        same("v 4", laidFor(three, 0, 0, 1, 2, 4), "2 0 1");
        same("v 5, the last", laidFor(three, 0, 0, 1, 2, 5), "2 1 0");
        same("v 6, round", laidFor(three, 0, 0, 1, 2, 6), "0 1 2");
        same("v 11, the last again", laidFor(three, 0, 0, 1, 2, 11), "2 1 0");
        FifthCard one = told(SMALL + ";rule h keeps high tells place");
        same("one order alone", laidFor(one, 0, 2, 3), "2");
        FifthCard four = told("trick cards 12 suits 1 hand 5 kept 1 she;rule h keeps high tells place");
        same("v 5 of 24", laidFor(four, 0, 0, 1, 2, 3, 5), "0 3 2 1");
        same("v 6 of 24", laidFor(four, 0, 0, 1, 2, 3, 6), "1 0 2 3");
        same("v 11 of 24", laidFor(four, 0, 0, 1, 2, 3, 11), "1 3 2 0");
        // v 23 is 23 mod 6 with two kept: 1 and 11 of 12
        FifthCard two = told("trick cards 12 suits 1 hand 5 kept 2 she;rule h keeps high tells place");
        same("v 23 of 6", laidFor(two, 0, 1, 2, 3, 4, 11), "4 3 2");
    }

    private static void tiltsByOrders() {
        sentence("term II", "tilts: the sets by v by n, downwards, mod 2 to SHOWN");
        FifthCard x = told("trick cards 12 suits 1 hand 3 kept 1 she tilts;rule h keeps high tells place");
        String[] due = {"0' 1", "1' 0", "0 1'", "1 0'", "0' 1'", "1' 0'", "0 1", "1 0", "0' 1", "1' 0"};
        for (int card = 2; card < 12; card++) {
            same("v " + card, laidFor(x, 0, 0, 1, card), due[card - 2]);
        }
        FifthCard one = told(SMALL + " tilts;rule h keeps high tells place");
        same("one shown, v 1", laidFor(one, 0, 0, 1), "0'");
        same("one shown, v 2", laidFor(one, 0, 0, 2), "0");
        // 3 and 11 of 12: v 47 is the last order with all tilted; 4 and 5: v 53, five orders on, none tilted
        FifthCard three = told(TWO_KEPT + ";rule l keeps low tells place;rule h keeps high tells place");
        same("v 47", laidFor(three, 1, 3, 4, 5, 6, 11), "6' 5' 4'");
        same("v 53", laidFor(three, 0, 4, 5, 9, 10, 11), "11 10 9");
    }

    private static void heldOneOrder() {
        sentence("term II", "Held, or a stranger: in their one order");
        FifthCard x = told("trick cards 12 suits 1 hand 4 kept 1 she held;rule h keeps high tells place");
        same("v 3", laidFor(x, 0, 0, 1, 2, 3), "0 1 2");
        same("v 11", laidFor(x, 0, 0, 1, 2, 11), "0 1 2");
        due("nothing tilted without tilts", x.tilted(x.lays(0, handOf(x, 0, 1, 2, 3))), 0);
    }

    private static void strangerOneOrder() {
        sentence("term II", "Held, or a stranger: in their one order");
        FifthCard x = told("trick cards 8 suits 1 hand 4 kept 1 stranger;rule h keeps high tells place;rule l keeps low tells place");
        same("the first left out", laidFor(x, 0, 7, 0, 2, 1), "0 2 1");
        same("the last left out", laidFor(x, 0, 2, 0, 1, 7), "2 0 1");
        same("the least left out", laidFor(x, 1, 7, 0, 2, 1), "7 2 1");
        due("nothing tilted without tilts", x.tilted(x.lays(0, handOf(x, 7, 0, 2, 1))), 0);
    }

    private static void tiltsOfOneOrder() {
        sentence("term II", "Held, or a stranger: .. tilts: v mod 2 to SHOWN");
        FifthCard held = told("trick cards 12 suits 1 hand 3 kept 1 she held tilts;rule h keeps high tells place");
        same("held, v 2", laidFor(held, 0, 0, 1, 2), "0 1'");
        same("held, v 3, the last set", laidFor(held, 0, 0, 1, 3), "0' 1'");
        same("held, v 4, round", laidFor(held, 0, 0, 1, 4), "0 1");
        same("held, v 11", laidFor(held, 0, 0, 1, 11), "0' 1'");
        FifthCard stranger = told("trick cards 12 suits 1 hand 3 kept 1 stranger tilts;rule h keeps high tells place");
        same("stranger, v 2", laidFor(stranger, 0, 2, 1, 0), "1 0'");
        same("stranger, v 3, the last set", laidFor(stranger, 0, 1, 3, 0), "1' 0'");
        same("stranger, v 4, round", laidFor(stranger, 0, 4, 1, 0), "1 0");
        same("stranger, v 11", laidFor(stranger, 0, 1, 0, 11), "1' 0'");
    }

    // ---- term II: suit

    private static void suitElseNone() {
        sentence("term II", "suit (she, not held, one kept, else it LAYS none)");
        String head = "trick cards 5 suits 1 hand 3 kept ";
        same("she, one kept", laidFor(told(head + "1 she;rule s suit"), 0, 0, 1, 2), "0 2");
        same("she, tilts", laidFor(told(head + "1 she tilts;rule s suit"), 0, 0, 1, 2), "0 2");
        String[] others = {"1 she held", "1 she held tilts", "1 stranger", "1 stranger tilts", "2 she", "2 she held", "2 stranger"};
        for (String way : others) {
            FifthCard x = told(head + way + ";rule s suit");
            answered(x, way + ": lays(0, 0)", y -> y.lays(0, 0), -2);
            due(way + ": fails(0)", x.fails(0), x.hands());
        }
    }

    private static void suitFirstTwo() {
        sentence("term II", "the first two, a below b, of one suit, by a, then b");
        FifthCard two = told("trick cards 12 suits 2 hand 4 kept 1 she;rule s suit");
        same("two of each suit", laidFor(two, 0, 1, 2, 7, 8), "1 7 8");
        same("one ahead of another suit", laidFor(two, 0, 0, 7, 8, 9), "7 0 9");
        same("all of one suit: 0 and 1", laidFor(two, 0, 0, 1, 2, 3), "0 2 3");
        same("a first: 0 and 5, not 6 and 7", laidFor(two, 0, 0, 5, 6, 7), "5 6 7");
        FifthCard four = told("trick cards 12 suits 4 hand 4 kept 1 she;rule s suit");
        same("then b: 3 and 4, not 3 and 5", laidFor(four, 0, 0, 3, 4, 5), "3 0 5");
        same("3 and 5, round", laidFor(four, 0, 2, 3, 5, 8), "5 2 8");
        same("the last two", laidFor(four, 0, 0, 3, 9, 10), "9 0 3");
    }

    private static void suitHalfOfRanks() {
        sentence("term II", "if they are half of RANKS or fewer, b is kept, a is the base; else a is kept, b is the base, "
            + "steps are RANKS less these");
        FifthCard twelve = told("trick cards 12 suits 1 hand 5 kept 1 she;rule s suit");
        same("5 of 12", laidFor(twelve, 0, 0, 5, 6, 7, 8), "0 8 6 7");
        same("6 of 12, half", laidFor(twelve, 0, 0, 6, 7, 8, 9), "0 9 8 7");
        same("6 of 12: b is kept", keptOf(twelve, 0, 0, 6, 7, 8, 9), "6");
        same("7 of 12, so 5", laidFor(twelve, 0, 0, 7, 8, 9, 10), "7 10 8 9");
        same("7 of 12: a is kept", keptOf(twelve, 0, 0, 7, 8, 9, 10), "0");
        same("8 of 12, so 4", laidFor(twelve, 0, 0, 8, 9, 10, 11), "8 10 11 9");
        FifthCard nine = told("trick cards 9 suits 1 hand 5 kept 1 she;rule s suit");
        same("4 of 9, fewer than half", laidFor(nine, 0, 0, 4, 5, 6, 7), "0 6 7 5");
        same("4 of 9: b is kept", keptOf(nine, 0, 0, 4, 5, 6, 7), "4");
        same("5 of 9, so 4", laidFor(nine, 0, 0, 5, 6, 7, 8), "5 7 8 6");
        same("5 of 9: a is kept", keptOf(nine, 0, 0, 5, 6, 7, 8), "0");
        FifthCard small = told(SMALL + ";rule s suit");
        same("1 of 2, half", laidFor(small, 0, 0, 1), "0");
        FifthCard four = told("trick cards 12 suits 4 hand 2 kept 1 she;rule s suit");
        same("1 of 3", laidFor(four, 0, 9, 10), "9");
        same("2 of 3, so 1", laidFor(four, 0, 9, 11), "11");
    }

    private static void suitNoSuchOrder() {
        sentence("term II", "then of the others the order numbered steps less 1; none, if there .. is no such order");
        FifthCard four = told("trick cards 12 suits 2 hand 4 kept 1 she;rule s suit");
        same("two others, 1 step", laidFor(four, 0, 0, 1, 7, 9), "0 7 9");
        same("two others, 2 steps, the last order", laidFor(four, 0, 0, 2, 7, 9), "0 9 7");
        same("two others, 3 steps, none", laidFor(four, 0, 0, 3, 7, 9), "-2");
        same("two others, 4, so 2 steps", laidFor(four, 0, 0, 4, 7, 9), "4 9 7");
        same("two others, 5, so 1 step", laidFor(four, 0, 0, 5, 7, 9), "5 7 9");
        FifthCard three = told("trick cards 12 suits 2 hand 3 kept 1 she;rule s suit");
        same("another one, 1 step", laidFor(three, 0, 0, 1, 7), "0 7");
        same("another one, 2 steps", laidFor(three, 0, 0, 2, 7), "-2");
        same("another one, 4, so 2 steps", laidFor(three, 0, 0, 4, 7), "-2");
        same("another one, 5, so 1 step", laidFor(three, 0, 0, 5, 7), "5 7");
        FifthCard two = told("trick cards 12 suits 2 hand 2 kept 1 she;rule s suit");
        same("no other, 1 step", laidFor(two, 0, 0, 1), "0");
        same("no other, 2 steps", laidFor(two, 0, 0, 2), "-2");
        same("no other, 5, so 1 step", laidFor(two, 0, 0, 5), "5");
        FifthCard five = told("trick cards 12 suits 1 hand 5 kept 1 she;rule s suit");
        same("three others, 6 steps, the last order", laidFor(five, 0, 0, 6, 7, 8, 9), "0 9 8 7");
        due("three others: there is always an order", five.fails(0), 0);
    }

    private static void suitNoTwo() {
        sentence("term II", "none, if there are no two");
        FifthCard x = told("trick cards 12 suits 4 hand 4 kept 1 she;rule s suit");
        same("four suits", laidFor(x, 0, 0, 3, 6, 9), "-2");
        same("the greatest of them", laidFor(x, 0, 2, 5, 8, 11), "-2");
        same("the last two of one suit", laidFor(x, 0, 0, 3, 6, 7), "6 0 3");
        due("one RANK alone: never two", told("trick cards 4 suits 4 hand 2 kept 1 she;rule s suit").fails(0), 6);
        due("five of four suits: always two", told("trick cards 8 suits 4 hand 5 kept 1 she;rule s suit").fails(0), 0);
    }

    private static void suitNothingTilted() {
        sentence("term II", "nothing tilted");
        FifthCard x = told("trick cards 12 suits 1 hand 5 kept 1 she tilts;rule s suit");
        same("with tilts", laidFor(x, 0, 0, 6, 7, 8, 9), "0 9 8 7");
        same("the greatest", laidFor(x, 0, 7, 8, 9, 10, 11), "7 9 10 11");
        for (int h = 0; h < 60; h++) {
            due("HAND " + h, x.tilted(x.lays(0, 13 * h)), 0);
        }
    }

    // ---- term II: table, WORKS

    private static void tableLeast() {
        sentence("term II", "table: the least of all TABLES: .. by the ROW of HAND 0, then of HAND 1, and so on");
        same("more ROWS than HANDS", allLaid(told(SHE + ";rule t table"), 0), "0 1, 0 3, 0 2, 1 2");
        same("held", allLaid(told(SHE + " held;rule t table"), 0), "0 1, 0 3, 0 2, 1 2");
        same("as many: each ROW is laid", allLaid(told("trick cards 5 suits 1 hand 2 kept 1 she tilts;rule t table"), 0),
            "0, 0', 3, 4, 1, 1', 4', 2, 2', 3'");
        FifthCard eight = told(EIGHT + ";rule t table");
        same("HAND 4 of as many", laidFor(eight, 0, 0, 1, 6), "0 6");
        // 1 0 FITS the HANDS 0 to 5 alone, so the last of them must have it, though 0 7 is free
        same("HAND 5 of as many", laidFor(eight, 0, 0, 1, 7), "1 0");
        // 0 2 FITS the HANDS 0, 6 .. 10; of 0 2 3 it is the least
        same("HAND 6 of as many", laidFor(eight, 0, 0, 2, 3), "0 2");
        same("a stranger's 1 0 2", laidFor(told("trick cards 4 suits 1 hand 3 kept 1 stranger tilts;rule t table"), 0, 1, 0, 2), "0 2'");
    }

    /** Found by trying, for each HAND in turn, each ROW with a pairing of all HANDS behind it. */
    private static final String[] TABLE_TRICKS = {"trick cards 4 suits 1 hand 3 kept 1 stranger tilts", EIGHT,
        "trick cards 5 suits 1 hand 3 kept 1 she held", "trick cards 4 suits 1 hand 4 kept 1 stranger",
        "trick cards 5 suits 1 hand 4 kept 2 she held tilts"};
    private static final String[] TABLES = {"0 1 2 4 3 5 6 8 12 16 13 17 24 9 14 20 25 28 36 7 15 18 26 29",
        "0 2 3 4 5 7 1 14 18 19 6 21 25 26 27 28 33 34 35 49 42 8 10 11 12 15 9 22 43 13 29 46 50 36 41 48 16 23 44 20 17 30 51 37 "
            + "54 55 24 31 52 40 38 45 32 39 53 47",
        "0 2 3 1 11 15 5 7 6 10", "0 1 2 3 4 5 6 7 8 9 10 11 12 13 14 15 16 17 18 19 20 21 22 23", "0 1 2 4 20"};

    private static String allTable(FifthCard x) {
        StringBuilder s = new StringBuilder();
        for (int h = 0; h < x.hands(); h++) {
            s.append(h > 0 ? " " : "").append(x.table(h));
        }
        return s.toString();
    }

    private static void tablesWhole() {
        sentence("term II", "each HAND has a ROW that FITS it, no two the same");
        for (int i = 0; i < TABLES.length; i++) {
            same(TABLE_TRICKS[i], allTable(told(TABLE_TRICKS[i])), TABLES[i]);
        }
        // whichever TRICK was there before
        for (int first = 0; first < TABLES.length; first++) {
            FifthCard x = told(TABLE_TRICKS[first]);
            x.table(0);
            int second = (first + 1) % TABLES.length;
            tell(x, TABLE_TRICKS[second]);
            same(TABLE_TRICKS[second] + " behind another", allTable(x), TABLES[second]);
        }
    }

    private static void tableNone() {
        sentence("term II", "none if there is no TABLE");
        for (String text : new String[] {SMALL, "trick cards 9 suits 1 hand 3 kept 1 she", "trick cards 6 suits 1 hand 3 kept 1 she held",
            "trick cards 4 suits 1 hand 2 kept 1 stranger", "trick cards 6 suits 1 hand 2 kept 1 she tilts"}) {
            FifthCard x = told(text + ";rule t table");
            answered(x, text + ": lays(0, 0)", y -> y.lays(0, 0), -2);
            answered(x, text + ": table(0)", y -> y.table(0), -2);
            answered(x, text + ": the last", y -> y.table(y.hands() - 1), -2);
            due(text + ": fails(0)", x.fails(0), x.hands());
        }
        // one CARD fewer, and there is one
        for (String text : new String[] {EIGHT, "trick cards 5 suits 1 hand 3 kept 1 she held",
            "trick cards 5 suits 1 hand 2 kept 1 she tilts"}) {
            due(text + ": works(0)", told(text + ";rule t table").works(0), 1);
        }
    }

    private static void tableUpTo300() {
        sentence("term II", "up to 300 HANDS (LAYS none if there are more)");
        FifthCard x = told("trick cards 10 suits 1 hand 5 kept 1 she;rule t table");
        due("252 HANDS", x.hands(), 252);
        due("252 HANDS: works(0)", x.works(0), 1);
        due("252 HANDS: fails(0)", x.fails(0), 0);
        due("252 HANDS: the last has a ROW", x.fits(251, x.lays(0, 251)), 1);
        for (String text : new String[] {"trick cards 11 suits 1 hand 4 kept 1 she", "trick cards 12 suits 1 hand 5 kept 1 she tilts",
            "trick cards 8 suits 1 hand 3 kept 1 stranger tilts", "trick cards 6 suits 1 hand 4 kept 1 stranger tilts"}) {
            FifthCard more = told(text + ";rule t table");
            due(text + ": more than 300", more.hands() > 300, true);
            answered(more, text + ": lays(0, 0)", y -> y.lays(0, 0), -2);
            answered(more, text + ": HAND 300", y -> y.lays(0, 300), -2);
            due(text + ": fails(0)", more.fails(0), more.hands());
            due(text + ": works(0)", more.works(0), 0);
        }
        // a TRICK of more has no TABLE of the one before
        FifthCard later = told(SHE + ";rule t table");
        due("a TABLE", later.table(3), 4);
        tell(later, "trick cards 11 suits 1 hand 4 kept 1 she;rule t table");
        due("none of the TRICK behind it", later.lays(0, 3), -2);
        tell(later, SMALL + ";rule t table");
        due("none of the one behind that", later.lays(0, 3), -2);
    }

    private static void worksEachHand() {
        sentence("term II", "A RULE WORKS if it LAYS each HAND a ROW");
        FifthCard small = told(SMALL + ";rule s suit");
        due("no two the same", small.clash(0, false), -2);
        due("four without a ROW", small.fails(0), 4);
        due("so it doesn't", small.works(0), 0);
        FifthCard none = told(SMALL + " held;rule s suit");
        due("none has a ROW", none.fails(0), 6);
        due("so it doesn't, either", none.works(0), 0);
        FifthCard one = told("trick cards 4 suits 4 hand 4 kept 1 she;rule s suit;rule w keeps low tells place");
        due("one HAND without a ROW", one.works(0), 0);
        due("one HAND with a ROW", one.works(1), 1);
    }

    private static void worksNoTwoTheSame() {
        sentence("term II", "A RULE WORKS if it LAYS each HAND a ROW, no two the same");
        FifthCard x = told(SMALL + ";rule w keeps low tells place");
        due("each has a ROW", x.fails(0), 0);
        due("two the same", x.clash(0, false), 3);
        due("so it doesn't", x.works(0), 0);
        FifthCard y = told(EIGHT + ";rule x keeps sum tells ring");
        due("as many ROWS as HANDS", y.laid(0), 56);
        due("so it does", y.works(0), 1);
        // a CARD more, and there are fewer ROWS
        FifthCard z = told("trick cards 9 suits 1 hand 3 kept 1 she;rule x keeps sum tells ring");
        due("fewer ROWS than HANDS", z.works(0), 0);
    }

    // ---- term III

    private static void pairsMost() {
        sentence("term III", "PAIRS: the most HANDS that can have each a ROW that FITS, no two the same");
        due("fewer ROWS", told("trick cards 9 suits 1 hand 3 kept 1 she").pairs(), 72);
        due("as many", told(EIGHT).pairs(), 56);
        due("more", told("trick cards 7 suits 1 hand 3 kept 1 she").pairs(), 35);
        due("held: rising ones alone, fewer", told("trick cards 6 suits 1 hand 3 kept 1 she held").pairs(), 15);
        due("held: rising ones alone, as many", told("trick cards 5 suits 1 hand 3 kept 1 she held").pairs(), 10);
        due("held: rising ones alone, more", told("trick cards 4 suits 1 hand 3 kept 1 she held").pairs(), 4);
        due("stranger, fewer", told(STRANGER).pairs(), 12);
        due("stranger, as many", told("trick cards 4 suits 1 hand 4 kept 1 stranger").pairs(), 24);
        due("stranger, tilts, more", told("trick cards 4 suits 1 hand 4 kept 1 stranger tilts").pairs(), 24);
        due("one HAND", told("trick cards 4 suits 1 hand 4 kept 2 she").pairs(), 1);
        due("more than 300 HANDS", told("trick cards 12 suits 1 hand 5 kept 1 she").pairs(), 792);
        due("the most HANDS", told("trick cards 8 suits 1 hand 4 kept 1 stranger").pairs(), 336);
    }

    private static void countFromHandTo200() {
        sentence("term III", "COUNT for a deck of n (hand up to 200): HANDS, ROWS");
        FifthCard she = told("trick cards 12 suits 1 hand 5 kept 1 she");
        answered(she, "HANDS of 5", y -> y.count(5, false), 1);
        answered(she, "ROWS of 5", y -> y.count(5, true), 120);
        answered(she, "HANDS of 200", y -> y.count(200, false), 2535650040L);
        answered(she, "ROWS of 200", y -> y.count(200, true), 200L * 199 * 198 * 197);
        answered(she, "HANDS of 199", y -> y.count(199, false), 2472258789L);
        FifthCard stranger = told("trick cards 6 suits 1 hand 5 kept 2 stranger");
        answered(stranger, "HANDS of 5", y -> y.count(5, false), 120);
        answered(stranger, "ROWS of 5", y -> y.count(5, true), 60);
        answered(stranger, "HANDS of 200", y -> y.count(200, false), 200L * 199 * 198 * 197 * 196);
        answered(stranger, "ROWS of 200", y -> y.count(200, true), 200L * 199 * 198);
        FifthCard two = told(SMALL);
        answered(two, "HANDS of 2", y -> y.count(2, false), 1);
        answered(two, "ROWS of 2", y -> y.count(2, true), 2);
        refused(two, "HANDS of 1", y -> y.count(1, false), 2);
        refused(two, "ROWS of 1", y -> y.count(1, true), 2);
        refused(two, "HANDS of 201", y -> y.count(201, false), 2);
        refused(two, "ROWS of 201", y -> y.count(201, true), 2);
        refused(she, "HANDS of 4", y -> y.count(4, false), 2);
    }

    private static void countHeldRising() {
        sentence("term III", "(held: ROWS rising alone");
        FifthCard held = told("trick cards 12 suits 1 hand 5 kept 1 she held");
        due("ROWS of 5", held.count(5, true), 5);
        due("ROWS of 12, of 11,880 in all", held.count(12, true), 495);
        due("ROWS of 200", held.count(200, true), 64684950);
        due("HANDS are as if not held", held.count(12, false), 792);
        due("not held", told("trick cards 12 suits 1 hand 5 kept 1 she").count(12, true), 11880);
        due("a stranger's", told("trick cards 6 suits 1 hand 5 kept 1 stranger").count(12, true), 11880);
    }

    private static void countTilts() {
        sentence("term III", "tilts count)");
        due("she", told("trick cards 12 suits 1 hand 5 kept 1 she tilts").count(200, true), 200L * 199 * 198 * 197 * 16);
        due("held", told("trick cards 12 suits 1 hand 5 kept 1 she held tilts").count(200, true), 64684950L * 16);
        due("a stranger", told("trick cards 6 suits 1 hand 5 kept 2 stranger tilts").count(200, true), 200L * 199 * 198 * 8);
        due("one shown", told(SMALL + " tilts").count(4, true), 8);
        due("HANDS without them", told(SMALL + " tilts").count(4, false), 6);
    }

    private static void mostUpTo200() {
        sentence("term III", "MOST: the greatest n up to 200");
        due("more than 200 would do", told("trick cards 12 suits 1 hand 5 kept 1 she tilts").most(), 200);
        due("195 do: 24 times 8 and 3", told("trick cards 12 suits 1 hand 4 kept 1 she tilts").most(), 195);
        due("124 do", told("trick cards 12 suits 1 hand 5 kept 1 she").most(), 124);
    }

    private static void mostNoMoreHands() {
        sentence("term III", "MOST: the greatest n .. with no more HANDS than ROWS by COUNT");
        // in each the counts are equal at that n
        due("one of two", told(SMALL).most(), 3);
        due("two of three", told(EIGHT).most(), 8);
        due("three of four", told("trick cards 4 suits 1 hand 4 kept 1 she").most(), 27);
        due("held", told("trick cards 5 suits 1 hand 5 kept 1 she held").most(), 9);
        due("held, tilts", told("trick cards 5 suits 1 hand 5 kept 1 she held tilts").most(), 84);
        due("a stranger, from hand on", told(STRANGER).most(), 3);
        due("a stranger, tilts, two kept", told("trick cards 4 suits 1 hand 3 kept 2 stranger tilts").most(), 3);
        due("two kept", told("trick cards 4 suits 1 hand 3 kept 2 she").most(), 4);
        // here the HANDS are fewer at that n, and more at the next
        due("a stranger, tilts, 6 by 8", told("trick cards 6 suits 1 hand 5 kept 2 stranger tilts").most(), 6);
        due("none from hand on", told("trick cards 4 suits 1 hand 3 kept 2 stranger").most(), -2);
        due("none from hand on, four", told("trick cards 4 suits 1 hand 4 kept 2 stranger").most(), -2);
    }

    private static void wordsNumbers() {
        sentence("term III", "WORDS of a rule by words have numbers, 5 times KEEP and TELL (0 low, 1 high, ..; 0 place, 1 rank, ..)");
        String[] keeps = {"low", "high", "mid", "sum"};
        String[] tells = {"place", "rank", "gap", "ring", "sum"};
        for (int words = 0; words < 20; words++) {
            FifthCard x = told(EIGHT + ";rule r keeps " + keeps[words / 5] + " tells " + tells[words % 5]);
            due("words(0)", x.words(0), words);
            due(words + " works as its RULE does", x.wordsWork(words), x.works(0));
        }
        // ring is always 0 for 4 CARDS, so that the same two are shown for two HANDS unless sum keeps
        FifthCard y = told(SHE + " tilts");
        StringBuilder work = new StringBuilder();
        for (int words = 0; words < 20; words++) {
            work.append(y.wordsWork(words));
        }
        same("which work", work.toString(), "11101" + "11101" + "11101" + "11111");
    }

    private static void seenBesideEachOther() {
        sentence("term III", "SEEN: .. none becomes another one of them if two CARDS beside each other .. change places");
        // all orders of 0 1 3 are laid
        due("all orders", told("trick cards 4 suits 1 hand 4 kept 1 stranger;rule r keeps sum tells place").seen(0), 0);
        // all orders of 0 1 3 with the second one tilted: 1 0' 3 and 3 0' 1, whose first and last are changed about
        FifthCard far = told("trick cards 4 suits 1 hand 4 kept 1 stranger tilts;rule r keeps sum tells place");
        same("one of them", laidFor(far, 0, 1, 0, 2, 3), "1 0' 3");
        same("another", laidFor(far, 0, 3, 2, 0, 1), "3 0' 1");
        due("not beside each other", far.seen(0), 1);
        due("one shown: there are no two", told(SMALL + ";rule w keeps low tells place").seen(0), 1);
        due("rising ones alone", told(SHE + " held;rule w keeps low tells place").seen(0), 1);
        // 1 0 for 0 1 3, 0 1 for 0 1 2: the first two
        FifthCard two = told("trick cards 5 suits 1 hand 3 kept 1 she;rule h keeps high tells place");
        same("0 1 2", laidFor(two, 0, 0, 1, 2), "0 1");
        same("0 1 3", laidFor(two, 0, 0, 1, 3), "1 0");
        due("both laid", two.seen(0), 0);
        // 0 1, 1 0, 2 0, 2 1: the first ROW of all and one other
        FifthCard first = told(SHE + ";rule h keeps high tells place");
        same("all laid", allLaid(first, 0), "0 1, 1 0, 2 0, 2 1");
        due("the first ROW of all", first.seen(0), 0);
        // 1 2, 1 3, 2 3 by the one: it is the other that LAYS 2 1
        FifthCard other = told(SHE + ";rule l keeps low tells ring;rule h keeps high tells place");
        same("1 2 by the one", laidFor(other, 0, 0, 1, 2), "1 2");
        same("2 1 by the other", laidFor(other, 1, 1, 2, 3), "2 1");
        due("of the ROWS that this RULE LAYS", other.seen(0), 1);
        // 0 1 2 for v 6, 0 2 1 for v 7 of 12 with 0 1 2 shown: the last two
        FifthCard last = told("trick cards 12 suits 1 hand 4 kept 1 she;rule h keeps high tells place");
        due("the last two", last.seen(0), 0);
        due("none laid: none becomes another", told(SMALL + " held;rule s suit").seen(0), 1);
    }

    private static void seenWithTilts() {
        sentence("term III", "SEEN: .. two CARDS beside each other (and their tilts)");
        FifthCard x = told(SHE + " tilts;rule h keeps high tells place");
        same("0 1 2", laidFor(x, 0, 0, 1, 2), "0' 1");
        same("0 1 3", laidFor(x, 0, 0, 1, 3), "1' 0");
        due("0' 1 becomes 1 0', not 1' 0", x.seen(0), 1);
        FifthCard both = told("trick cards 5 suits 1 hand 4 kept 2 she tilts;rule h keeps high tells place");
        same("one tilted, ahead or behind", allLaid(both, 0), "2' 1, 1 2', 1 3', 2 3', 3 2");
        due("2' 1 becomes 1 2'", both.seen(0), 0);
        due("so it isn't BORNE", both.borne(0), 0);
        FifthCard five = told("trick cards 5 suits 1 hand 3 kept 1 she tilts;rule h keeps high tells place");
        same("0 1 3 of five", laidFor(five, 0, 0, 1, 3), "1' 0");
        same("0 1 4 of five", laidFor(five, 0, 0, 1, 4), "0 1'");
        due("1' 0 becomes 0 1'", five.seen(0), 0);
        due("held: rising ones become falling ones, however tilted",
            told(SHE + " held tilts;rule h keeps high tells gap").seen(0), 1);
        // 8 of 12 is laid untilted, 9 too: 0 1 and 1 0
        due("untilted ones", told("trick cards 12 suits 1 hand 3 kept 1 she tilts;rule h keeps high tells place").seen(0), 0);
    }

    private static void borneMoreover() {
        sentence("term III", "BORNE: moreover no two, each with what it becomes so, have any ROW in common");
        FifthCard x = told("trick cards 5 suits 1 hand 4 kept 1 she;rule r keeps low tells ring;rule p keeps high tells place");
        due("rising rows of unlike sets", x.borne(0), 1);
        // 1 2 0 and 2 0 1 both become 2 1 0
        same("0 1 2 3", laidFor(x, 1, 0, 1, 2, 3), "1 2 0");
        same("0 1 2 4", laidFor(x, 1, 0, 1, 2, 4), "2 0 1");
        due("SEEN", x.seen(1), 1);
        due("but not BORNE", x.borne(1), 0);
        FifthCard all = told("trick cards 4 suits 1 hand 4 kept 1 stranger;rule r keeps sum tells place");
        due("not SEEN, not BORNE", all.borne(0), 0);
        FifthCard far = told("trick cards 4 suits 1 hand 4 kept 1 stranger tilts;rule r keeps sum tells place");
        due("1 0' 3 and 3 0' 1 become unlike ones", far.borne(0), 1);
        due("two shown: SEEN is BORNE", told(SHE + " tilts;rule h keeps high tells place").borne(0), 1);
        due("two shown, not SEEN", told("trick cards 5 suits 1 hand 3 kept 1 she;rule h keeps high tells place").borne(0), 0);
        due("one shown", told(SMALL + ";rule w keeps low tells place").borne(0), 1);
        due("none laid", told(SMALL + " held;rule s suit").borne(0), 1);
    }

    private static void agreesWithThatRow() {
        sentence("term III", "It AGREES with a RULE that LAYS that ROW for it");
        FifthCard x = told(SMALL + " tilts;rule h keeps high tells place;rule s suit;evening 0,1 shows 0 tilted 0;evening 0,1 shows 0;"
            + "evening 2,3 shows 2 tilted 0;evening 2,0 shows 0");
        due("0' for 0 1 and 0 for 0 2", x.agrees(0), 3);
        due("0 1 isn't laid 0", x.wrong(0), 1);
        due("untilted for 0 1; none laid for 0 2", x.agrees(1), 1);
        due("the first wrong", x.wrong(1), 0);
    }

    private static void apartUnlikeRows() {
        sentence("term III", "APART of two RULES: HANDS for which they LAY unlike ROWS");
        FifthCard x = told(SMALL + " tilts;rule a keeps high tells place;rule b keeps high tells place;rule c keeps high tells ring;"
            + "rule d keeps low tells place");
        due("the same words", x.apart(0, 1), 0);
        // place is odd for 1 and 3 kept; ring for 3 alone, as two CARDS not shown are below it
        due("tilted otherwise for 0 1", x.apart(0, 2), 1);
        due("other CARDS for all", x.apart(0, 3), 6);
    }

    private static void apartOneLaysNone() {
        sentence("term III", "(or one LAYS none)");
        FifthCard x = told(SMALL + ";rule s suit;rule t table;rule w keeps high tells place;rule x keeps low tells place");
        due("both none for 4, one none for 2", x.apart(0, 1), 2);
        due("one none for 4, the same for 2", x.apart(0, 2), 4);
        due("one none for 4, unlike for 2", x.apart(0, 3), 6);
        due("one none for all", x.apart(1, 2), 6);
    }

    private static void meanHandsByThese() {
        sentence("term III", "MEAN: HANDS by these");
        FifthCard x = told(SMALL + ";rule s suit;rule t table;rule w keeps high tells place;rule x keeps low tells place");
        due("6 by 4", x.mean(0, 2, false) * 10 + x.mean(0, 2, true), 32);
        due("6 by 2", x.mean(0, 1, false) * 10 + x.mean(0, 1, true), 31);
        due("6 by 6", x.mean(0, 3, false) * 10 + x.mean(0, 3, true), 11);
    }

    private static void imagesUpTo3() {
        sentence("term III", "IMAGES: up to 3");
        FifthCard x = told(SMALL);
        for (int image = 0; image < 3; image++) {
            due("an IMAGE", x.image(), image);
            due("how many", x.size(10), image + 1);
        }
        refused(x, "a fourth", y -> y.image(), 3);
    }

    private static void imagesKeep() {
        sentence("term III", "each keeps EVENINGS, SEED");
        FifthCard x = told(SMALL + ";rule w keeps high tells place");
        x.seed(1);
        x.image();
        for (int e = 0; e < 20; e++) {
            x.shows(0, e % 6);
        }
        x.seed(65536);
        x.image();
        due("back to none", x.back(0), true);
        due("none", x.size(8), 0);
        due("SEED 1", x.size(9), 1);
        x.shows(0, 5);
        x.seed(2);
        due("back to twenty", x.back(1), true);
        due("twenty", x.size(8), 20);
        due("SEED 65,536", x.size(9), 65536);
        for (int e = 0; e < 20; e++) {
            due("HAND of " + e, x.evening(e, false), e % 6);
            due("ROW of " + e, x.evening(e, true), x.lays(0, e % 6));
        }
    }
}
