/** Term I, THE TEXT of a TRICK: each sentence that names a boundary, by the last on this side and the first beyond. */
public final class TextBoundsTest extends Trial {
    private static final String[] KEEPS = {"low", "high", "mid", "sum"};
    private static final String[] TELLS = {"place", "rank", "gap", "ring", "sum"};
    private static final String TILTS = "trick cards 6 suits 1 hand 5 kept 1 she tilts";

    public static void main(String[] args) {
        tapeHas900Bytes();
        blanksPartTokens();
        blanksMeanNothingElse();
        wordsOf1To8();
        wordsOfSmallLetters();
        wordsStandTogether();
        wholesOf1To3();
        wholesOfDigits();
        singleSigns();
        linesAreParted();
        cardsFrom4To12();
        suitsFrom1To4();
        suitsGoInto();
        handFrom2To5();
        handNoMoreThanCards();
        keptFrom1To2();
        keptLessThanHand();
        ways();
        perhapsTilts();
        trickAheadOfAll();
        trickWords();
        threeKindsOfRules();
        upTo4Rules();
        keepWords();
        tellWords();
        eveningAsManyAsAHand();
        eveningAsManyAsShown();
        eveningUnlikeCards();
        eveningCards();
        tiltedPlaces();
        tiltedUnlike();
        perhapsTilted();
        upTo9Evenings();
        namesAreWordsBut();
        namesToldOnce();
        firstFromTheLeft();
        leastOfOnePlace();
        formByte();
        formToken();
        formTiltedWithoutTilts();
        formEnd();
        againName();
        againCard();
        againPlace();
        againTrick();
        outOfBounds();
        manyRules();
        manyEvenings();
        lacksRule();
        lacksEvening();
        moreThan2000Hands();
        handsAtItsWay();
        finish();
    }

    private static void tapeHas900Bytes() {
        sentence("term I", "THE TAPE has 900 bytes");
        String rule = ";rule a suit";
        sound(SMALL + " ".repeat(900 - SMALL.length() - rule.length()) + rule, 1);
        faulty(SMALL + " ".repeat(900 - SMALL.length() - 1) + ";^", 1);
        FifthCard x = new FifthCard();
        put(x, SMALL + " ".repeat(900 - SMALL.length() - 1) + ";");
        due("a byte more than 900", x.trick(901), -1);
        due("a byte more than 900: trouble()", x.trouble(), 2);
        put(x, "rule a suit");
        due("none comes behind 900", x.size(11), 900);
        due("so the text still ends there", x.trick(900), -1);
        due("so the text still ends there: where()", x.where(), 900);
    }

    private static void blanksPartTokens() {
        sentence("term I", "blanks, 32, part TOKENS");
        faulty("^trickcards 4 suits 2 hand 2 kept 1 she", 1);
        faulty(SMALL + ";^rulea suit", 1);
        faulty("trick cards ^1 2 suits 2 hand 2 kept 1 she", 4);
        faulty("^tri ck cards 4 suits 2 hand 2 kept 1 she", 1);
        faulty(SMALL + ";rule a ^su it", 1);
        sound("trick cards 4suits 2hand 2kept 1she;rule a suit;evening 0,1shows 0", 1);
    }

    private static void blanksMeanNothingElse() {
        sentence("term I", "blanks, 32, part TOKENS and mean nothing else");
        sound("   " + SMALL, 0);
        sound(SMALL + "   ", 0);
        sound("trick   cards  4  suits  2  hand  2  kept  1  she  ;  rule  a  suit  ;  evening  0  ,  1  shows  0  ", 1);
        for (int sign : new int[] {0, 9, 10, 13, 31, 33, 160, 255}) {
            faulty("trick^" + (char) sign + "cards 4 suits 2 hand 2 kept 1 she", 1);
            faulty(SMALL + "^" + (char) sign, 1);
        }
    }

    private static void wordsOf1To8() {
        sentence("term I", "WORDS of 1 to 8 small letters that stand together");
        sound(SMALL + ";rule a suit", 1);
        sound(SMALL + ";rule abcdefg suit", 1);
        sound(SMALL + ";rule abcdefgh suit", 1);
        faulty(SMALL + ";rule ^abcdefghi suit", 1);
        faulty(SMALL + ";rule ^abcdefghabcdefgh suit", 1);
        // without a letter there's no NAME: suit is, and the end comes too soon
        faulty(SMALL + ";rule  suit^", 1);
    }

    private static void wordsOfSmallLetters() {
        sentence("term I", "WORDS of 1 to 8 small letters");
        for (int sign = 0; sign < 256; sign++) {
            char c = (char) sign;
            if (c >= 'a' && c <= 'z') {
                sound(SMALL + ";rule " + c + " suit", 1);
                sound(SMALL + ";rule a" + c + " suit", 1);
            } else if (c != ' ') {
                faulty(SMALL + ";rule ^" + c + " suit", 1);
                faulty(SMALL + ";rule a^" + c + " suit", 1);
            }
        }
    }

    private static void wordsStandTogether() {
        sentence("term I", "small letters that stand together");
        faulty(SMALL + ";rule a ^suita", 1);
        faulty(SMALL + ";rule a ^asuit", 1);
        faulty(SMALL + ";rule a ^sui", 1);
        faulty(SMALL + ";rule a ^tabl", 1);
        // as long, but with another first letter, or another last one
        faulty("^prick cards 4 suits 2 hand 2 kept 1 she", 1);
        faulty("trick ^lards 4 suits 2 hand 2 kept 1 she", 1);
        faulty("trick cards 4 suits 2 hand 2 kept 1 ^the", 1);
        faulty(SMALL + ";^mule a suit", 1);
        faulty(SMALL + ";rule a ^cable", 1);
        faulty(SMALL + ";rule a ^suis", 1);
        faulty(SMALL + ";rule a keeps ^row tells place", 1);
        faulty(SMALL + ";rule a keeps low tells ^bank", 1);
        faulty(SMALL + ";rule a keeps low tells ^rink", 1);
        faulty(SMALL + ";rule abcd^1efgh suit", 1);
    }

    private static void wholesOf1To3() {
        sentence("term I", "WHOLES of 1 to 3 digits that do");
        due("4", sound("trick cards 4 suits 2 hand 2 kept 1 she", 0).size(0), 4);
        due("04", sound("trick cards 04 suits 2 hand 2 kept 1 she", 0).size(0), 4);
        due("004", sound("trick cards 004 suits 002 hand 002 kept 001 she", 0).size(0), 4);
        due("012", sound("trick cards 012 suits 2 hand 2 kept 1 she", 0).size(0), 12);
        faulty("trick cards ^0004 suits 2 hand 2 kept 1 she", 1);
        faulty("trick cards ^1000 suits 2 hand 2 kept 1 she", 1);
        faulty("trick cards ^999 suits 2 hand 2 kept 1 she", 4);
        faulty("trick cards ^4294967300 suits 2 hand 2 kept 1 she", 1);
        faulty("trick cards ^suits 2 hand 2 kept 1 she", 1);
        sound(SMALL + ";evening 000,003 shows 003", 0);
        faulty(SMALL + ";evening 0,^0001 shows 1", 1);
    }

    private static void wholesOfDigits() {
        sentence("term I", "WHOLES of 1 to 3 digits");
        String behind = " suits 1 hand 2 kept 1 she";
        for (int sign = 0; sign < 256; sign++) {
            char c = (char) sign;
            if (c >= '4' && c <= '9') {
                due("" + c, sound("trick cards " + c + behind, 0).size(0), c - '0');
            } else if (c >= '0' && c <= '3') {
                faulty("trick cards ^" + c + behind, 4);
            } else if (c != ' ') {
                faulty("trick cards ^" + c + behind, 1);
                faulty("trick cards 4^" + c + behind, 1);
            }
        }
        faulty("trick cards ^-4" + behind, 1);
    }

    private static void singleSigns() {
        sentence("term I", "single ones of ; ,");
        sound(SMALL + ";rule a suit;rule b suit", 2);
        faulty(SMALL + ";^;rule a suit", 1);
        faulty("^;" + SMALL, 1);
        faulty(SMALL + "^,rule a suit", 1);
        sound(SMALL + ";evening 0,1 shows 0", 0);
        faulty(SMALL + ";evening 0,^,1 shows 0", 1);
        faulty(SMALL + ";evening ^,0,1 shows 0", 1);
        faulty(SMALL + ";evening 0^;1 shows 0", 1);
        faulty(SMALL + ";evening 0 ^1 shows 0", 1);
        faulty(SMALL + "^:rule a suit", 1);
        faulty(SMALL + ";evening 0^.1 shows 0", 1);
        faulty(SMALL + ";evening 0^-1 shows 0", 1);
    }

    private static void linesAreParted() {
        sentence("term I", "LINE {; LINE}");
        faulty("^", 1);
        sound(SMALL, 0);
        faulty(SMALL + ";^", 1);
        faulty(SMALL + " ^rule a suit", 1);
        faulty(SMALL + ";rule a suit ^rule b suit", 1);
        faulty(SMALL + ";evening 0,1 shows 0 ^evening 0,1 shows 0", 1);
        faulty(SMALL + ";^suit", 1);
        faulty(SMALL + ";^1", 1);
        sound(SMALL + ";evening 0,1 shows 0;rule a suit;evening 0,1 shows 0;rule b suit", 2);
    }

    private static void cardsFrom4To12() {
        sentence("term I", "trick cards WHOLE .. (4 .. 12");
        for (int cards = 4; cards <= 12; cards++) {
            due("cards", sound("trick cards " + cards + " suits 1 hand 2 kept 1 she", 0).size(0), cards);
        }
        faulty("trick cards ^3 suits 1 hand 2 kept 1 she", 4);
        faulty("trick cards ^13 suits 1 hand 2 kept 1 she", 4);
        faulty("trick cards ^0 suits 1 hand 2 kept 1 she", 4);
        faulty("trick cards ^104 suits 1 hand 2 kept 1 she", 4);
    }

    private static void suitsFrom1To4() {
        sentence("term I", "suits WHOLE .. (1 .. 4");
        for (int suits = 1; suits <= 4; suits++) {
            due("suits", sound("trick cards 12 suits " + suits + " hand 2 kept 1 she", 0).size(1), suits);
        }
        faulty("trick cards 12 suits ^0 hand 2 kept 1 she", 4);
        faulty("trick cards 10 suits ^5 hand 2 kept 1 she", 4);
        faulty("trick cards 12 suits ^6 hand 2 kept 1 she", 4);
        faulty("trick cards 12 suits ^12 hand 2 kept 1 she", 4);
    }

    private static void suitsGoInto() {
        sentence("term I", "going into the cards");
        for (int cards = 4; cards <= 12; cards++) {
            for (int suits = 1; suits <= 4; suits++) {
                String head = "trick cards " + cards + " suits ";
                if (cards % suits == 0) {
                    sound(head + suits + " hand 2 kept 1 she", 0);
                } else {
                    faulty(head + "^" + suits + " hand 2 kept 1 she", 4);
                }
            }
        }
    }

    private static void handFrom2To5() {
        sentence("term I", "hand WHOLE .. (2 .. 5");
        for (int hand = 2; hand <= 5; hand++) {
            due("hand", sound("trick cards 12 suits 1 hand " + hand + " kept 1 she", 0).size(2), hand);
        }
        faulty("trick cards 12 suits 1 hand ^1 kept 1 she", 4);
        faulty("trick cards 12 suits 1 hand ^6 kept 1 she", 4);
        faulty("trick cards 12 suits 1 hand ^0 kept 1 she", 4);
    }

    private static void handNoMoreThanCards() {
        sentence("term I", "2 .. 5, no more than the cards");
        sound("trick cards 4 suits 1 hand 4 kept 1 she", 0);
        faulty("trick cards 4 suits 1 hand ^5 kept 1 she", 4);
        sound("trick cards 5 suits 1 hand 5 kept 1 she", 0);
        sound("trick cards 4 suits 1 hand 4 kept 2 stranger", 0);
        faulty("trick cards 4 suits 1 hand ^5 kept 2 stranger", 4);
    }

    private static void keptFrom1To2() {
        sentence("term I", "kept WHOLE .. (1 .. 2");
        due("kept", sound("trick cards 12 suits 1 hand 5 kept 1 she", 0).size(3), 1);
        due("kept", sound("trick cards 12 suits 1 hand 5 kept 2 she", 0).size(3), 2);
        faulty("trick cards 12 suits 1 hand 5 kept ^0 she", 4);
        faulty("trick cards 12 suits 1 hand 5 kept ^3 she", 4);
        faulty("trick cards 12 suits 1 hand 5 kept ^4 she", 4);
    }

    private static void keptLessThanHand() {
        sentence("term I", "1 .. 2, less than the hand");
        sound("trick cards 4 suits 1 hand 2 kept 1 she", 0);
        faulty("trick cards 4 suits 1 hand 2 kept ^2 she", 4);
        sound("trick cards 4 suits 1 hand 3 kept 2 she", 0);
    }

    private static void ways() {
        sentence("term I", "WAY: she, or she held, or stranger");
        String head = "trick cards 4 suits 2 hand 2 kept 1 ";
        String[] told = {"she", "she held", "stranger"};
        for (int way = 0; way < 3; way++) {
            FifthCard x = sound(head + told[way], 0);
            due(told[way] + ": stranger", x.size(4), way == 2 ? 1 : 0);
            due(told[way] + ": held", x.size(5), way == 1 ? 1 : 0);
        }
        faulty(head + "^", 1);
        faulty(head + "^held", 1);
        faulty(head + "^he", 1);
        faulty(head + "^;", 1);
        faulty(head + "^tilts", 1);
        faulty(head + "^1", 1);
        faulty(head + "she ^she", 1);
        faulty(head + "she ^stranger", 1);
        faulty(head + "she held ^held", 1);
        faulty(head + "stranger ^held", 1);
        faulty(head + "stranger ^she", 1);
    }

    private static void perhapsTilts() {
        sentence("term I", "WAY, behind it perhaps tilts");
        String head = "trick cards 4 suits 2 hand 2 kept 1 ";
        for (String way : new String[] {"she", "she held", "stranger"}) {
            due(way + ": no tilts", sound(head + way, 0).size(6), 0);
            due(way + ": tilts", sound(head + way + " tilts", 0).size(6), 1);
            faulty(head + way + " tilts ^tilts", 1);
            faulty(head + way + " ^tilted", 1);
        }
        faulty(head + "she tilts ^held", 1);
        faulty("trick cards 4 suits 2 hand 2 kept 1 ^tilts she", 1);
    }

    private static void trickAheadOfAll() {
        sentence("term I", "trick .., ahead of all others");
        sound(SMALL + ";rule a suit;evening 0,1 shows 0", 1);
        faulty("^rule a suit;" + SMALL, 6);
        faulty("^evening 0,1 shows 0;" + SMALL, 6);
        faulty(SMALL + ";rule a suit;^" + SMALL, 3);
    }

    private static void trickWords() {
        sentence("term I", "trick cards WHOLE suits WHOLE hand WHOLE kept WHOLE WAY");
        faulty("trick ^suits 2 cards 4 hand 2 kept 1 she", 1);
        faulty("trick ^4 suits 2 hand 2 kept 1 she", 1);
        faulty("trick cards 4 ^hand 2 kept 1 she", 1);
        faulty("trick cards 4 ^2 hand 2 kept 1 she", 1);
        faulty("trick cards 4 suits 2 ^kept 1 hand 2 she", 1);
        faulty("trick cards 4 suits 2 ^2 kept 1 she", 1);
        faulty("trick cards 4 suits 2 hand 2 ^she", 1);
        faulty("trick cards 4 suits 2 hand 2 ^1 she", 1);
        faulty("trick cards 4 suits 2 hand ^kept 1 she", 1);
        faulty("trick cards 4 suits 2 hand 2 kept ^she", 1);
        faulty("trick cards 4 suits ^hand 2 kept 1 she", 1);
        faulty("trick cards 4^, suits 2 hand 2 kept 1 she", 1);
    }

    private static void threeKindsOfRules() {
        sentence("term I", "rule NAME suit, or rule NAME table, or rule NAME keeps KEEP tells TELL");
        due("suit", sound(SMALL + ";rule a suit", 1).words(0), 20);
        due("table", sound(SMALL + ";rule a table", 1).words(0), 21);
        due("by words", sound(SMALL + ";rule a keeps low tells place", 1).words(0), 0);
        faulty(SMALL + ";rule a^", 1);
        faulty(SMALL + ";rule a^;", 1);
        faulty(SMALL + ";rule a ^tells low keeps place", 1);
        faulty(SMALL + ";rule a ^low tells place", 1);
        faulty(SMALL + ";rule a keeps low ^place", 1);
        faulty(SMALL + ";rule a keeps low^", 1);
        faulty(SMALL + ";rule a keeps low tells^", 1);
        faulty(SMALL + ";rule a keeps low tells place ^suit", 1);
        faulty(SMALL + ";rule a suit ^table", 1);
        faulty(SMALL + ";rule a table ^table", 1);
        faulty(SMALL + ";rule a ^1", 1);
    }

    private static void upTo4Rules() {
        sentence("term I", "rule .. (up to 4");
        String text = SMALL;
        for (int rules = 1; rules <= 4; rules++) {
            text += ";rule " + (char) ('a' + rules) + " suit";
            sound(text, rules);
        }
        faulty(text + ";^rule x suit", 5);
        faulty(text + ";evening 0,1 shows 0;^rule x suit", 5);
    }

    private static void keepWords() {
        sentence("term I", "KEEP: low, high, mid, or sum");
        for (int keep = 0; keep < 4; keep++) {
            due(KEEPS[keep], sound(SMALL + ";rule a keeps " + KEEPS[keep] + " tells place", 1).words(0), 5 * keep);
        }
        for (String other : new String[] {"place", "rank", "gap", "ring", "suit", "table", "lo", "highest", "1"}) {
            faulty(SMALL + ";rule a keeps ^" + other + " tells place", 1);
        }
        faulty(SMALL + ";rule a keeps^", 1);
    }

    private static void tellWords() {
        sentence("term I", "TELL: place, rank, gap, ring, or sum");
        for (int tell = 0; tell < 5; tell++) {
            due(TELLS[tell], sound(SMALL + ";rule a keeps sum tells " + TELLS[tell], 1).words(0), 15 + tell);
        }
        for (String other : new String[] {"low", "high", "mid", "suit", "table", "rin", "places", "1"}) {
            faulty(SMALL + ";rule a keeps low tells ^" + other, 1);
        }
    }

    private static void eveningAsManyAsAHand() {
        sentence("term I", "evening WHOLE {, WHOLE} .. (as many as a hand");
        String[] cards = {"0", "0,1", "0,1,2", "0,1,2,3", "0,1,2,3,4", "0,1,2,3,4,5"};
        for (int hand = 2; hand <= 5; hand++) {
            String head = "trick cards 6 suits 1 hand " + hand + " kept 1 she;evening ";
            String shows = " shows " + cards[hand - 2];
            sound(head + cards[hand - 1] + shows, 0);
            faulty(head + cards[hand - 2] + " ^" + shows.substring(1), 1);
            faulty(head + cards[hand - 1] + "^," + hand + shows, 1);
        }
        faulty(SMALL + ";evening ^shows 0", 1);
        faulty(SMALL + ";evening^", 1);
        faulty(SMALL + ";evening 0^", 1);
        faulty(SMALL + ";evening 0,^", 1);
        faulty(SMALL + ";evening 0,^shows 0", 1);
        faulty(SMALL + ";evening 0,1^", 1);
        faulty(SMALL + ";evening ^a,1 shows 0", 1);
    }

    private static void eveningAsManyAsShown() {
        sentence("term I", "shows WHOLE {, WHOLE} .. (.. as many as are shown");
        String[] cards = {"", "0", "0,1", "0,1,2", "0,1,2,3", "0,1,2,3,4"};
        for (int hand = 2; hand <= 5; hand++) {
            for (int kept = 1; kept <= 2 && kept < hand; kept++) {
                int shown = hand - kept;
                String head = "trick cards 6 suits 1 hand " + hand + " kept " + kept + " she;evening " + cards[hand] + " shows ";
                sound(head + cards[shown], 0);
                faulty(head + cards[shown - 1] + "^;rule a suit", 1);
                faulty(head + cards[shown - 1] + "^", 1);
                faulty(head + cards[shown] + "^," + shown, 1);
            }
        }
        faulty(SMALL + ";evening 0,1 shows ^a", 1);
        faulty(SMALL + ";evening 0,1 ^0", 1);
        faulty(SMALL + ";evening 0,1 shows ^shows 0", 1);
    }

    private static void eveningUnlikeCards() {
        sentence("term I", "as many as a hand, unlike CARDS; as many as are shown, unlike CARDS");
        String head = "trick cards 6 suits 1 hand 5 kept 1 she;evening ";
        sound(head + "4,3,2,1,0 shows 3,2,1,0", 0);
        faulty(head + "4,^4,2,1,0 shows 3,2,1,0", 3);
        faulty(head + "4,3,2,1,^4 shows 3,2,1,0", 3);
        faulty(head + "4,3,2,1,^1 shows 3,2,1,0", 3);
        faulty(head + "4,3,2,1,0 shows 3,^3,1,0", 3);
        faulty(head + "4,3,2,1,0 shows 3,2,1,^3", 3);
        faulty(head + "0,1,2,3,4 shows 0,^0,1,2", 3);
        // the CARDS shown needn't be of the HAND, and each EVENING begins anew
        sound(head + "4,3,2,1,0 shows 5,4,3,2;evening 4,3,2,1,0 shows 5,4,3,2", 0);
    }

    private static void eveningCards() {
        sentence("term I", "unlike CARDS");
        for (int cards = 4; cards <= 12; cards++) {
            String head = "trick cards " + cards + " suits 1 hand 2 kept 1 she;evening ";
            int last = cards - 1;
            sound(head + "0," + last + " shows " + last, 0);
            sound(head + last + ",0 shows 0", 0);
            faulty(head + "0,^" + cards + " shows 0", 4);
            faulty(head + "^" + cards + ",0 shows 0", 4);
            faulty(head + "0," + last + " shows ^" + cards, 4);
            faulty(head + "0," + last + " shows ^999", 4);
        }
    }

    private static void tiltedPlaces() {
        sentence("term I", "with tilts: places 0 up to how many are shown less 1");
        String[] cards = {"", "0", "0,1", "0,1,2", "0,1,2,3", "0,1,2,3,4"};
        for (int hand = 2; hand <= 5; hand++) {
            int shown = hand - 1;
            String text = "trick cards 6 suits 1 hand " + hand + " kept 1 she tilts;evening " + cards[hand]
                + " shows " + cards[shown] + " tilted ";
            FifthCard x = sound(text + "0", 0);
            due("place 0", x.tilted(x.evening(0, true)), 1);
            x = sound(text + (shown - 1), 0);
            due("place " + (shown - 1), x.tilted(x.evening(0, true)), 1 << shown - 1);
            x = sound(text + cards[shown], 0);
            due("all places", x.tilted(x.evening(0, true)), (1 << shown) - 1);
            faulty(text + "^" + shown, 4);
            faulty(text + "^999", 4);
            faulty(text + "0,^" + shown, 4);
        }
    }

    private static void tiltedUnlike() {
        sentence("term I", "places 0 up to how many are shown less 1, unlike");
        String text = TILTS + ";evening 0,1,2,3,4 shows 0,1,2,3 tilted ";
        FifthCard x = sound(text + "3,0,2", 0);
        due("in any order", x.tilted(x.evening(0, true)), 13);
        faulty(text + "0,^0", 3);
        faulty(text + "3,^3", 3);
        faulty(text + "3,0,2,^3", 3);
        faulty(text + "3,0,2,1,^1", 3);
        faulty(text + "3,0,2,1,^4", 4);
        faulty(text + "3,0,2,1,^", 1);
    }

    private static void perhapsTilted() {
        sentence("term I", "behind it perhaps tilted WHOLE {, WHOLE}");
        String text = TILTS + ";evening 0,1,2,3,4 shows 0,1,2,3";
        FifthCard x = sound(text, 0);
        due("nothing tilted", x.tilted(x.evening(0, true)), 0);
        faulty(text + " tilted^", 1);
        faulty(text + " tilted^;rule a suit", 1);
        faulty(text + " tilted ^,0", 1);
        faulty(text + " tilted 0 ^1", 1);
        faulty(text + " tilted 0,^,1", 1);
        faulty(text + " tilted 0,^", 1);
        faulty(text + " tilted 0,^;rule a suit", 1);
        faulty(text + " tilted 0 ^tilted 1", 1);
        faulty(text + " ^tilts 0", 1);
        sound(text + " tilted 0;rule a suit", 1);
    }

    private static String evenings(int count) {
        return SMALL + ";evening 0,1 shows 0".repeat(count);
    }

    private static void upTo9Evenings() {
        sentence("term I", "evening .. (.. up to 9)");
        for (int count = 0; count <= 9; count++) {
            due("evenings", sound(evenings(count), 0).size(8), count);
        }
        faulty(evenings(9) + ";^evening 0,1 shows 0", 5);
        sound(evenings(9) + ";rule a suit;rule b suit;rule c suit;rule d suit", 4);
    }

    private static void namesAreWordsBut() {
        sentence("term I", "NAMES are WORDS but trick, rule, evening, shows, tilted");
        for (String name : new String[] {"trick", "rule", "evening", "shows", "tilted"}) {
            faulty(SMALL + ";rule ^" + name + " suit", 1);
            sound(SMALL + ";rule " + name.substring(1) + " suit", 1);
            sound(SMALL + ";rule x" + name + " suit", 1);
        }
        for (String name : new String[] {"cards", "suits", "hand", "kept", "she", "held", "stranger", "tilts", "suit",
            "table", "keeps", "tells", "low", "high", "mid", "sum", "place", "rank", "gap", "ring"}) {
            sound(SMALL + ";rule " + name + " suit", 1);
            sound(SMALL + ";rule " + name + " keeps low tells place", 1);
        }
        faulty(SMALL + ";rule ^1 suit", 1);
        faulty(SMALL + ";rule ^", 1);
        faulty(SMALL + ";rule ^;", 1);
        faulty(SMALL + ";rule ^, suit", 1);
    }

    private static void namesToldOnce() {
        sentence("term I", "each told once");
        sound(SMALL + ";rule ab suit;rule abc suit;rule a suit;rule ac suit", 4);
        sound(SMALL + ";rule abcdefgh suit;rule abcdefgi suit;rule bbcdefgh suit", 3);
        faulty(SMALL + ";rule ab suit;rule ^ab suit", 3);
        faulty(SMALL + ";rule ab suit;rule b suit;rule c suit;rule ^ab table", 3);
        faulty(SMALL + ";rule a suit;rule b suit;rule c suit;rule ^c table", 3);
        faulty(SMALL + ";rule abcdefgh suit;rule ^abcdefgh suit", 3);
        // a NAME of a TRICK before is no NAME of this one
        FifthCard x = told(SMALL + ";rule a suit");
        due("told by another TRICK", tell(x, SMALL + ";rule a suit;rule b suit"), 2);
    }

    private static void firstFromTheLeft() {
        sentence("term I", "FAULTS, the first that is met from the left");
        faulty("trick cards ^3 suits $", 4);
        faulty("trick ^$ 3", 1);
        faulty("^rule $", 6);
        faulty("^evening 9,9", 6);
        faulty("trick cards 9 suits 1 hand 4 kept 1 ^stranger $", 7);
        faulty("trick cards 9 suits 1 hand 4 kept ^9 stranger", 4);
        faulty(SMALL + ";evening 0,^0 shows 9", 3);
        faulty(SMALL + ";evening 0,^9 shows 0,0", 4);
        faulty(SMALL + ";evening ^9,9 shows 0", 4);
        faulty(SMALL + ";rule a suit;rule ^a $", 3);
        faulty(SMALL + ";rule a ^$;rule a suit", 1);
        faulty(SMALL + ";rule a suit;rule b suit;rule c suit;rule d suit;^rule a suit", 5);
        faulty(SMALL + ";^trick cards 99", 3);
        faulty(evenings(9) + ";^evening 9,9", 5);
        faulty(evenings(8) + ";evening ^9,9 shows 0;evening 0,1 shows 0", 4);
    }

    private static void leastOfOnePlace() {
        sentence("term I", "of one place the least number");
        // out of bounds, too, but of four digits
        faulty("trick cards ^1000", 1);
        faulty(SMALL + ";evening ^1000", 1);
        faulty(TILTS + ";evening 0,1,2,3,4 shows 0,1,2,3 tilted ^1000", 1);
        // a LINE more of its sort, too
        faulty(SMALL + ";^trick", 3);
        // of more than 2,000 HANDS by a stranger, but no WAY
        faulty("trick cards 9 suits 1 hand 4 kept 1 ^strange", 1);
        // told again, too, but no NAME
        faulty(SMALL + ";rule ^rule suit;rule rule suit", 1);
    }

    private static void formByte() {
        sentence("term I", "1 FORM: the first byte that begins no TOKEN");
        for (char sign : new char[] {0, 1, '!', '.', ':', '/', '<', '@', '`', '{', 'T', 127, 128, 255}) {
            faulty("^" + sign, 1);
            faulty("  ^" + sign + SMALL, 1);
            faulty(SMALL + ";^" + sign, 1);
            faulty(SMALL + ";rule a suit^" + sign, 1);
            faulty(SMALL + ";evening 0,1 shows 0^" + sign + sign, 1);
        }
    }

    private static void formToken() {
        sentence("term I", "or TOKEN with which no TRICK goes on");
        faulty("^she", 1);
        faulty("^4", 1);
        faulty("^,", 1);
        faulty(SMALL + " ^4", 1);
        faulty(SMALL + "^,", 1);
        faulty(SMALL + ";^shows", 1);
        faulty(SMALL + ";^tilted", 1);
        faulty(SMALL + ";rule a suit ^a", 1);
        faulty(SMALL + ";evening 0,1 shows 0 ^0", 1);
        faulty(SMALL + ";evening 0,1 shows 0^,1", 1);
    }

    private static void formTiltedWithoutTilts() {
        sentence("term I", "(tilted without tilts");
        for (String way : new String[] {"she", "she held", "stranger"}) {
            String head = "trick cards 4 suits 2 hand 2 kept 1 " + way;
            faulty(head + ";evening 0,1 shows 0 ^tilted 0", 1);
            faulty(head + ";evening 0,1 shows 0 ^tilted 9", 1);
            sound(head + " tilts;evening 0,1 shows 0 tilted 0", 0);
        }
    }

    private static void formEnd() {
        sentence("term I", "the end: its place)");
        faulty("^", 1);
        faulty(" ^", 1);
        faulty("trick^", 1);
        faulty("trick  ^", 1);
        faulty("trick cards 4 suits 2 hand 2 kept 1^", 1);
        faulty("trick cards 4 suits 2 hand 2 kept 1   ^", 1);
        faulty(SMALL + ";^", 1);
        faulty(SMALL + "; ^", 1);
        // THE TAPE goes on, the text doesn't
        FifthCard x = new FifthCard();
        put(x, SMALL);
        due("all but the last byte", x.trick(38), -1);
        due("all but the last byte: fault()", x.fault(), 1);
        due("the WORD sh, not the end", x.where(), 36);
        put(x, SMALL);
        due("all but the last WORD", x.trick(35), -1);
        due("all but the last WORD: where()", x.where(), 35);
    }

    private static void againName() {
        sentence("term I", "3 a NAME told again .. at it");
        faulty(SMALL + ";rule a suit;rule ^a suit", 3);
        faulty(SMALL + ";rule a suit;rule ^a", 3);
        faulty(SMALL + ";rule a suit;rule   ^a 1", 3);
        faulty(SMALL + ";rule a suit;rule ^a;", 3);
        faulty(SMALL + ";rule a suit;rule ^a1", 3);
        sound(SMALL + ";rule a suit;rule b suit", 2);
    }

    private static void againCard() {
        sentence("term I", "3 .. a CARD .. told again in its row; at it");
        faulty(SMALL + ";evening 3,^3 shows 3", 3);
        faulty(SMALL + ";evening 3,^003 shows 3", 3);
        sound(SMALL + ";evening 3,2 shows 3", 0);
        faulty(EIGHT + ";evening 7,6,5 shows 7,^7", 3);
        sound(EIGHT + ";evening 7,6,5 shows 7,6", 0);
    }

    private static void againPlace() {
        sentence("term I", "3 .. a place told again in its row; at it");
        faulty(SMALL + " tilts;evening 3,2 shows 3 tilted 0,^0", 3);
        faulty(EIGHT + " tilts;evening 7,6,5 shows 1,0 tilted 1,^1", 3);
        sound(EIGHT + " tilts;evening 7,6,5 shows 1,0 tilted 1,0;evening 7,6,5 shows 1,0 tilted 1,0", 0);
    }

    private static void againTrick() {
        sentence("term I", "3 .. a second trick; at that WORD");
        faulty(SMALL + ";^" + SMALL, 3);
        faulty(SMALL + ";rule a suit;evening 0,1 shows 0;  ^trick", 3);
        faulty(SMALL + ";^trick 1", 3);
    }

    private static void outOfBounds() {
        sentence("term I", "4 a WHOLE out of bounds, or not as told; at it");
        faulty("trick cards   ^13 suits", 4);
        faulty("trick cards ^3", 4);
        faulty("trick cards 9 suits ^2", 4);
        faulty("trick cards 9 suits ^4", 4);
        faulty("trick cards 9 suits 3 hand ^6", 4);
        faulty("trick cards 9 suits 3 hand 2 kept ^2", 4);
        faulty(SMALL + ";evening ^4", 4);
        faulty(SMALL + ";evening 0,1 shows ^4", 4);
        faulty(SMALL + " tilts;evening 0,1 shows 0 tilted ^1", 4);
    }

    private static void manyRules() {
        sentence("term I", "5 MANY: a LINE more of its sort than there is room for, at its first WORD (rule)");
        String four = SMALL + ";rule a suit;rule b suit;rule c suit;rule d suit";
        sound(four, 4);
        faulty(four + ";^rule", 5);
        faulty(four + ";  ^rule e suit", 5);
        faulty(four + ";^rule rule", 5);
        faulty(four + ";^rules", 1);
    }

    private static void manyEvenings() {
        sentence("term I", "5 MANY: a LINE more of its sort than there is room for, at its first WORD (evening)");
        faulty(evenings(9) + ";^evening", 5);
        faulty(evenings(9) + ";  ^evening $", 5);
        faulty(evenings(8) + ";evening^", 1);
        due("nine", sound(evenings(9), 0).size(8), 9);
    }

    private static void lacksRule() {
        sentence("term I", "6 LACKS: rule .. ahead of the trick; at that WORD");
        faulty("^rule", 6);
        faulty("  ^rule a suit", 6);
        faulty("^rules", 1);
        // the TRICK of before doesn't help
        FifthCard x = told(SMALL);
        due("a rule alone", tell(x, "rule a suit"), -1);
        due("a rule alone: fault()", x.fault(), 6);
    }

    private static void lacksEvening() {
        sentence("term I", "6 LACKS: .. evening ahead of the trick; at that WORD");
        faulty("^evening", 6);
        faulty("  ^evening 0,1 shows 0", 6);
        faulty("^evenings", 1);
    }

    private static void moreThan2000Hands() {
        sentence("term I", "7 a trick of more than 2,000 HANDS");
        for (int cards = 4; cards <= 12; cards++) {
            for (int hand = 2; hand <= 5 && hand <= cards; hand++) {
                String head = "trick cards " + cards + " suits 1 hand " + hand + " kept 1 ";
                int rows = 1;
                for (int i = 0; i < hand; i++) {
                    rows *= cards - i;
                }
                if (rows > 2000) {
                    faulty(head + "^stranger", 7);
                    faulty(head + "^stranger tilts;rule a suit", 7);
                } else {
                    due("hands", sound(head + "stranger", 0).hands(), rows);
                }
                // she never has so many
                int sets = rows / new int[] {1, 1, 2, 6, 24, 120}[hand];
                due("hands", sound(head + "she", 0).hands(), sets);
                due("hands", sound(head + "she held", 0).hands(), sets);
            }
        }
        due("the most", sound("trick cards 8 suits 1 hand 4 kept 1 stranger", 0).hands(), 1680);
    }

    private static void handsAtItsWay() {
        sentence("term I", "7 .. at its WAY");
        faulty("trick cards 9 suits 1 hand 4 kept 1   ^stranger", 7);
        faulty("trick cards 12 suits 4 hand 5 kept 2 ^stranger held", 7);
        faulty("trick cards 12 suits 4 hand 5 kept 2 ^stranger;trick", 7);
        FifthCard x = told("trick cards 12 suits 4 hand 5 kept 2 she");
        due("a stranger's", tell(x, "trick cards 7 suits 1 hand 5 kept 1 stranger"), -1);
        due("the TRICK stays", x.hands(), 792);
    }
}
