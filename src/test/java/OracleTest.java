import java.util.ArrayList;
import java.util.Arrays;
import java.util.Collections;
import java.util.HashMap;
import java.util.HashSet;
import java.util.List;
import java.util.Map;
import java.util.NoSuchElementException;
import java.util.Random;
import java.util.Set;
import java.util.TreeSet;

/**
 * Runs of calls by a fixed seed, on FifthCard and on a model that follows the document's words as
 * plainly as can be (lists of all hands and rows, every table by trying); the answers must be the same.
 */
public final class OracleTest {
    private static int wrong = 0;
    private static long calls = 0;

    public static void main(String[] args) {
        int runs = args.length > 0 ? Integer.parseInt(args[0]) : 1500;
        long seed = args.length > 1 ? Long.parseLong(args[1]) : 20261118L;
        everyDeck();
        for (int run = 0; run < runs && wrong < 20; run++) {
            randomRun(run, new Random(seed + run));
        }
        System.out.println(calls + " calls compared, " + wrong + " answers are not as due");
        if (wrong != 0) {
            System.exit(1);
        }
    }

    // ---- all decks, each with all rules, in a few runs

    private static void everyDeck() {
        for (int n = 4; n <= 12; n++) {
            for (int k = 2; k <= 5 && k <= n; k++) {
                for (int kept = 1; kept <= 2 && kept < k; kept++) {
                    for (String way : new String[] {"she", "she held", "stranger"}) {
                        for (String tilts : new String[] {"", " tilts"}) {
                            for (int suits = 1; suits <= 4; suits++) {
                                if (n % suits == 0) {
                                    oneDeck("trick cards " + n + " suits " + suits + " hand " + k + " kept " + kept
                                        + " " + way + tilts, suits);
                                }
                            }
                        }
                    }
                }
            }
        }
    }

    private static void oneDeck(String head, int suits) {
        String[] sets = {
            ";rule a suit;rule b table;rule c keeps low tells place;rule d keeps low tells rank",
            ";rule a keeps low tells gap;rule b keeps low tells ring;rule c keeps low tells sum;rule d keeps high tells place",
            ";rule a keeps high tells rank;rule b keeps high tells gap;rule c keeps high tells ring;rule d keeps high tells sum",
            ";rule a keeps mid tells place;rule b keeps mid tells rank;rule c keeps mid tells gap;rule d keeps mid tells ring",
            ";rule a keeps mid tells sum;rule b keeps sum tells place;rule c keeps sum tells rank;rule d keeps sum tells gap",
            ";rule a keeps sum tells ring;rule b keeps sum tells sum;rule c suit;rule d suit"};
        for (int i = 0; i < sets.length; i++) {
            if (suits > 1 && i > 0 && i < 5) {
                continue;
            }
            Pair p = new Pair(-1 - i);
            p.tell(head + sets[i]);
            for (int what = 0; what < 12; what++) {
                p.call("size", what);
            }
            if (p.call("hands") < 0) {
                return;
            }
            p.call("rows");
            p.call("fitting");
            p.call("pairs");
            p.call("most");
            int hands = p.model.hands.size();
            for (int rule = 0; rule < 4; rule++) {
                for (String name : new String[] {"works", "laid", "fails", "seen", "borne"}) {
                    p.call(name, rule);
                }
                p.call("clash", rule, 0);
                p.call("clash", rule, 1);
                for (int h = 0; h < hands; h++) {
                    p.call("lays", rule, h);
                    if (h % 7 == 0) {
                        p.call("kept", rule, h, 0);
                        p.call("kept", rule, h, 1);
                    }
                }
            }
            p.call("apart", 0, 1);
            p.call("hardest");
            if (i == 0) {
                for (int w = 0; w < 20; w++) {
                    p.call("wordsWork", w);
                }
                p.call("shortest");
                for (int h = 0; h < hands; h++) {
                    p.call("table", h);
                    for (int j = 0; j < 5; j++) {
                        p.call("hand", h, j);
                    }
                }
                int rows = p.model.rows.size();
                for (int r = 0; r < rows; r += 1 + rows / 300) {
                    p.call("row", r, 0);
                    p.call("row", r, p.model.shown - 1);
                    p.call("tilted", r);
                    p.call("fits", r % hands, r);
                }
            }
        }
    }

    // ---- random runs

    private static final String[] KEEP = {"low", "high", "mid", "sum"};
    private static final String[] TELL = {"place", "rank", "gap", "ring", "sum"};

    private static String text(Random random) {
        int n = 4 + random.nextInt(random.nextInt(3) == 0 ? 9 : 4);
        int k = 2 + random.nextInt(4);
        int kept = 1 + random.nextInt(2);
        int suits = 1 + random.nextInt(4);
        String way = new String[] {"she", "she", "she held", "stranger"}[random.nextInt(4)];
        boolean tilts = random.nextInt(3) == 0;
        StringBuilder s = new StringBuilder("trick cards " + n + " suits " + suits + " hand " + k + " kept " + kept
            + " " + way + (tilts ? " tilts" : ""));
        int rules = random.nextInt(25) == 0 ? 5 : random.nextInt(5);
        for (int i = 0; i < rules; i++) {
            String name = random.nextInt(40) == 0 ? "a" : "" + (char) ('a' + i) + (random.nextBoolean() ? "" : "table");
            int sort = random.nextInt(6);
            s.append(";rule ").append(name).append(sort == 0 ? " suit" : sort == 1 ? " table"
                : " keeps " + KEEP[random.nextInt(4)] + " tells " + TELL[random.nextInt(5)]);
        }
        int evenings = random.nextInt(25) == 0 ? 10 : random.nextInt(4);
        for (int i = 0; i < evenings; i++) {
            int shown = Math.max(1, k - kept);
            s.append(";evening ").append(cards(random, n, k)).append(" shows ").append(cards(random, n, shown));
            if (tilts && random.nextBoolean()) {
                s.append(" tilted ").append(cards(random, shown, 1 + random.nextInt(shown)));
            }
        }
        return s.toString();
    }

    private static String cards(Random random, int n, int k) {
        List<Integer> all = new ArrayList<>();
        for (int c = 0; c < Math.max(n, k); c++) {
            all.add(c);
        }
        Collections.shuffle(all, random);
        StringBuilder s = new StringBuilder();
        for (int i = 0; i < k; i++) {
            s.append(i > 0 ? "," : "").append(all.get(i));
        }
        return s.toString();
    }

    private static final String[] SCRAPS = {" ", ";", ",", "rule", "trick", "evening", "shows", "tilted", "tilts", "held",
        "she", "stranger", "suit", "table", "keeps", "tells", "sum", "low", "place", "0", "1", "2", "3", "7", "12", "13",
        "004", "1000", "abcdefgh", "abcdefghi", "A", "\u0000", "\u00ff", "-", "  ", "x1", "cards", "suits", "hand", "kept"};

    private static String spoil(String text, Random random) {
        List<String> parts = new ArrayList<>();
        int at = 0;
        while (at < text.length()) {
            int end = at + 1;
            while (end < text.length() && Character.isLetterOrDigit(text.charAt(end))
                && Character.isLetterOrDigit(text.charAt(at))) {
                end++;
            }
            parts.add(text.substring(at, end));
            at = end;
        }
        int where = random.nextInt(parts.size() + 1);
        String scrap = SCRAPS[random.nextInt(SCRAPS.length)];
        switch (random.nextInt(5)) {
            case 0:
                parts.add(where, scrap);
                break;
            case 1:
                if (where < parts.size()) {
                    parts.remove(where);
                }
                break;
            case 2:
                parts = new ArrayList<>(parts.subList(0, where));
                break;
            default:
                if (where < parts.size()) {
                    parts.set(where, scrap);
                }
                break;
        }
        return String.join("", parts);
    }

    private static final String[] NAMES = {"trick", "fault", "where", "hands", "rows", "hand", "handOf", "row", "tilted", "fits",
        "fitting", "lays", "kept", "says", "works", "clash", "laid", "fails", "seen", "borne", "wordsWork", "shortest",
        "pairs", "table", "count", "most", "judge", "evening", "agrees", "wrong", "found", "apart", "mean", "hardest",
        "shows", "shows", "seed", "draw", "strike", "image", "back", "led", "size", "words", "trouble"};

    private static void randomRun(int run, Random random) {
        Pair p = new Pair(run);
        int tells = 1 + random.nextInt(8);
        for (int t = 0; t < tells; t++) {
            String text = text(random);
            int spoils = random.nextInt(3);
            for (int i = 0; i < spoils; i++) {
                text = spoil(text, random);
            }
            p.tell(text.length() > 880 ? text.substring(0, 880) : text);
            int many = random.nextInt(60);
            for (int i = 0; i < many; i++) {
                randomCall(p, random);
            }
        }
    }

    private static void randomCall(Pair p, Random random) {
        String name = NAMES[random.nextInt(NAMES.length)];
        int hands = p.model.hands.size();
        int rows = p.model.rows.size();
        int rule = random.nextInt(6) - 1;
        int other = random.nextInt(5);
        int h = odd(random, hands);
        int r = odd(random, rows);
        switch (name) {
            case "trick": p.callOdd(random, name, random.nextInt(30) - 5); break;
            case "hand": p.callOdd(random, name, h, random.nextInt(7) - 1); break;
            case "row": p.callOdd(random, name, r, random.nextInt(7) - 1); break;
            case "tilted": p.callOdd(random, name, r); break;
            case "fits": p.callOdd(random, name, h, random.nextBoolean() ? r : near(p, h, random)); break;
            case "handOf": p.callOdd(random, name, five(p, random)); break;
            case "lays": case "shows": p.callOdd(random, name, rule, h); break;
            case "kept": p.callOdd(random, name, rule, h, random.nextInt(4) - 1); break;
            case "says": p.callOdd(random, name, rule, r); break;
            case "works": case "laid": case "fails": case "seen": case "borne": case "agrees": case "wrong": case "words":
                p.callOdd(random, name, rule); break;
            case "clash": p.callOdd(random, name, rule, random.nextInt(2)); break;
            case "wordsWork": p.callOdd(random, name, random.nextInt(23) - 1); break;
            case "table": p.callOdd(random, name, h); break;
            case "count": p.callOdd(random, name, random.nextInt(4) == 0 ? 190 + random.nextInt(15) : random.nextInt(30), random.nextInt(2)); break;
            case "judge": p.callOdd(random, name, random.nextInt(8) - 1); break;
            case "evening": p.callOdd(random, name, random.nextInt(8) - 1, random.nextInt(2)); break;
            case "apart": p.callOdd(random, name, rule, other); break;
            case "mean": p.callOdd(random, name, rule, other, random.nextInt(2)); break;
            case "seed": p.callOdd(random, name, new int[] {-1, 0, 65536, 65537, random.nextInt(65536)}[random.nextInt(5)]); break;
            case "back": p.callOdd(random, name, random.nextInt(5) - 1); break;
            case "led": p.callOdd(random, name, rule, random.nextInt(10) - 1); break;
            case "size": p.callOdd(random, name, random.nextInt(14) - 1); break;
            default: p.callOdd(random, name); break;
        }
        p.call("trouble");
        p.call("where");
    }

    private static int odd(Random random, int bound) {
        int sort = random.nextInt(20);
        return sort == 0 ? -1 : sort == 1 ? bound : sort == 2 ? Integer.MIN_VALUE : sort == 3 ? Integer.MAX_VALUE
            : bound == 0 ? 0 : random.nextInt(bound);
    }

    private static int near(Pair p, int h, Random random) {
        if (h < 0 || h >= p.model.hands.size()) {
            return 0;
        }
        for (int i = 0; i < 200; i++) {
            int r = random.nextInt(p.model.rows.size());
            if (p.model.fit(h, r)) {
                return r;
            }
        }
        return 0;
    }

    private static int[] five(Pair p, Random random) {
        int[] five = {-1, -1, -1, -1, -1};
        int k = p.model.handSize == 0 ? 3 : p.model.handSize;
        List<Integer> all = new ArrayList<>();
        for (int c = 0; c < Math.max(5, p.model.cards); c++) {
            all.add(c);
        }
        Collections.shuffle(all, random);
        for (int i = 0; i < k; i++) {
            five[i] = all.get(i);
        }
        if (random.nextInt(4) == 0) {
            five[random.nextInt(5)] = random.nextInt(16) - 2;
        }
        return five;
    }

    // ---- both, side by side

    private static final class Pair {
        final int run;
        final FifthCard real = new FifthCard();
        final Model model = new Model();
        String last = "";

        Pair(int number) {
            run = number;
        }

        void tell(String text) {
            last = text;
            StringBuilder padded = new StringBuilder(text);
            while (padded.length() % 20 != 0) {
                padded.append(' ');
            }
            int already = model.tape.size();
            for (int i = 0; i < padded.length(); i += 20) {
                int[] five = new int[5];
                for (int j = 0; j < 20; j++) {
                    five[j / 4] = five[j / 4] << 8 | padded.charAt(i + j) & 255;
                }
                call("feed", five);
            }
            call("trick", already + text.length());
            call("trouble");
            call("fault");
            call("where");
        }

        /** Now and then with a number far out of all bounds. */
        void callOdd(Random random, String name, int... a) {
            if (a.length > 0 && random.nextInt(12) == 0) {
                a[random.nextInt(a.length)] = new int[] {Integer.MIN_VALUE, Integer.MAX_VALUE, -2, 1 << 20}[random.nextInt(4)];
            }
            call(name, a);
        }

        long call(String name, int... a) {
            calls++;
            long due = model.call(name, a);
            long got = real(name, a);
            if (due != got) {
                wrong++;
                System.out.println("run " + run + ": " + name + Arrays.toString(a) + " answered " + got + ", due is " + due
                    + " (" + last + ")");
            }
            return due;
        }

        private long real(String name, int[] a) {
            FifthCard x = real;
            switch (name) {
                case "feed": return x.feed(a[0], a[1], a[2], a[3], a[4]);
                case "trick": return x.trick(a[0]);
                case "fault": return x.fault();
                case "where": return x.where();
                case "hands": return x.hands();
                case "rows": return x.rows();
                case "hand": return x.hand(a[0], a[1]);
                case "handOf": return x.handOf(a[0], a[1], a[2], a[3], a[4]);
                case "row": return x.row(a[0], a[1]);
                case "tilted": return x.tilted(a[0]);
                case "fits": return x.fits(a[0], a[1]);
                case "fitting": return x.fitting();
                case "lays": return x.lays(a[0], a[1]);
                case "kept": return x.kept(a[0], a[1], a[2]);
                case "says": return x.says(a[0], a[1]);
                case "works": return x.works(a[0]);
                case "clash": return x.clash(a[0], a[1] == 1);
                case "laid": return x.laid(a[0]);
                case "fails": return x.fails(a[0]);
                case "seen": return x.seen(a[0]);
                case "borne": return x.borne(a[0]);
                case "wordsWork": return x.wordsWork(a[0]);
                case "shortest": return x.shortest();
                case "pairs": return x.pairs();
                case "table": return x.table(a[0]);
                case "count": return x.count(a[0], a[1] == 1);
                case "most": return x.most();
                case "judge": return x.judge(a[0]);
                case "evening": return x.evening(a[0], a[1] == 1);
                case "agrees": return x.agrees(a[0]);
                case "wrong": return x.wrong(a[0]);
                case "found": return x.found();
                case "apart": return x.apart(a[0], a[1]);
                case "mean": return x.mean(a[0], a[1], a[2] == 1);
                case "hardest": return x.hardest();
                case "shows": return x.shows(a[0], a[1]);
                case "seed": return x.seed(a[0]) ? 1 : 0;
                case "draw": return x.draw();
                case "strike": return x.strike() ? 1 : 0;
                case "image": return x.image();
                case "back": return x.back(a[0]) ? 1 : 0;
                case "led":
                    try {
                        return x.led(a[0], a[1]);
                    } catch (NoSuchElementException e) {
                        return -77;
                    }
                case "size": return x.size(a[0]);
                case "words": return x.words(a[0]);
                case "trouble": return x.trouble();
                default: throw new IllegalArgumentException(name);
            }
        }
    }

    // ---- the model

    private static final class Fault extends RuntimeException {
        final int number;
        final int place;

        Fault(int n, int p) {
            super(null, null, false, false);
            number = n;
            place = p;
        }
    }

    private static final class Token {
        final String text;
        final int place;
        final char sort;

        Token(String t, int p, char s) {
            text = t;
            place = p;
            sort = s;
        }
    }

    /** A row of cards with the places tilted. */
    private static final class Row {
        final List<Integer> cards;
        final int tilts;

        Row(List<Integer> c, int t) {
            cards = c;
            tilts = t;
        }

        String key() {
            return cards + "/" + tilts;
        }
    }

    private static final class Model {
        final List<Integer> tape = new ArrayList<>();
        boolean begun;
        int cards, suits, handSize, kept, shown;
        boolean stranger, held, tilts;
        List<List<Integer>> hands = new ArrayList<>();
        List<Row> rows = new ArrayList<>();
        Map<String, Integer> rowNumbers = new HashMap<>();
        List<Integer> rules = new ArrayList<>();
        List<int[]> evenings = new ArrayList<>();
        int seed;
        List<List<int[]>> imageEvenings = new ArrayList<>();
        List<Integer> imageSeeds = new ArrayList<>();
        int trouble, fault, place;
        List<List<Integer>> lays = new ArrayList<>();
        List<Integer> table;
        boolean tableTried;
        int pairs = -1;

        // -- the text

        private List<Token> tokens;
        private int at;
        private int end;

        int trick(int n) {
            if (n < 0 || n > tape.size()) {
                return no(2);
            }
            StringBuilder text = new StringBuilder();
            for (int i = 0; i < n; i++) {
                text.append((char) (int) tape.get(i));
            }
            tape.clear();
            Model next = new Model();
            try {
                next.read(text.toString());
            } catch (Fault f) {
                fault = f.number;
                place = f.place;
                return no(4);
            }
            fault = 0;
            begun = true;
            cards = next.cards;
            suits = next.suits;
            handSize = next.handSize;
            kept = next.kept;
            shown = next.shown;
            stranger = next.stranger;
            held = next.held;
            tilts = next.tilts;
            hands = next.hands;
            rows = next.rows;
            rowNumbers = next.rowNumbers;
            rules = next.rules;
            evenings = next.evenings;
            seed = 0;
            imageEvenings.clear();
            imageSeeds.clear();
            lays = new ArrayList<>();
            for (int i = 0; i < rules.size(); i++) {
                lays.add(null);
            }
            table = null;
            tableTried = false;
            pairs = -1;
            return yes(rules.size());
        }

        private void read(String text) {
            tokens = new ArrayList<>();
            end = text.length();
            int i = 0;
            while (i < text.length()) {
                char c = text.charAt(i);
                int j = i + 1;
                if (c == ' ') {
                    i++;
                    continue;
                }
                char sort = c >= 'a' && c <= 'z' ? 'w' : c >= '0' && c <= '9' ? 'n' : c == ';' || c == ',' ? c : '?';
                while (j < text.length() && (sort == 'w' && text.charAt(j) >= 'a' && text.charAt(j) <= 'z'
                    || sort == 'n' && text.charAt(j) >= '0' && text.charAt(j) <= '9')) {
                    j++;
                }
                if (sort == 'w' && j - i > 8 || sort == 'n' && j - i > 3) {
                    sort = '?';
                }
                tokens.add(new Token(text.substring(i, j), i, sort));
                i = j;
            }
            tokens.add(new Token("", end, 'e'));
            at = 0;
            Set<String> names = new HashSet<>();
            line(names);
            while (look().sort == ';') {
                at++;
                line(names);
            }
            if (look().sort != 'e') {
                throw new Fault(1, look().place);
            }
        }

        private Token look() {
            return tokens.get(at);
        }

        private void need(String word) {
            if (look().sort != 'w' || !look().text.equals(word)) {
                throw new Fault(1, look().place);
            }
            at++;
        }

        private boolean maybe(String word) {
            if (look().sort == 'w' && look().text.equals(word)) {
                at++;
                return true;
            }
            return false;
        }

        private int whole(int low, int high, int into) {
            Token t = look();
            if (t.sort != 'n') {
                throw new Fault(1, t.place);
            }
            int v = Integer.parseInt(t.text);
            if (v < low || v > high || into > 0 && into % v != 0) {
                throw new Fault(4, t.place);
            }
            at++;
            return v;
        }

        private void line(Set<String> names) {
            Token t = look();
            if (maybe("trick")) {
                if (begun) {
                    throw new Fault(3, t.place);
                }
                need("cards");
                cards = whole(4, 12, 0);
                need("suits");
                suits = whole(1, 4, cards);
                need("hand");
                handSize = whole(2, Math.min(5, cards), 0);
                need("kept");
                kept = whole(1, Math.min(2, handSize - 1), 0);
                Token way = look();
                if (maybe("stranger")) {
                    stranger = true;
                } else {
                    need("she");
                }
                shown = handSize - kept;
                hands = sequences(cards, handSize, !stranger);
                if (hands.size() > 2000) {
                    throw new Fault(7, way.place);
                }
                held = !stranger && maybe("held");
                tilts = maybe("tilts");
                for (List<Integer> c : sequences(cards, shown, false)) {
                    for (int set = 0; set < (tilts ? 1 << shown : 1); set++) {
                        Row r = new Row(c, set);
                        rowNumbers.put(r.key(), rows.size());
                        rows.add(r);
                    }
                }
                begun = true;
            } else if (maybe("rule")) {
                if (!begun) {
                    throw new Fault(6, t.place);
                }
                if (rules.size() == 4) {
                    throw new Fault(5, t.place);
                }
                Token name = look();
                if (name.sort != 'w' || Arrays.asList("trick", "rule", "evening", "shows", "tilted").contains(name.text)) {
                    throw new Fault(1, name.place);
                }
                if (!names.add(name.text)) {
                    throw new Fault(3, name.place);
                }
                at++;
                if (maybe("suit")) {
                    rules.add(20);
                } else if (maybe("table")) {
                    rules.add(21);
                } else {
                    need("keeps");
                    int keep = oneOf(KEEP);
                    need("tells");
                    rules.add(5 * keep + oneOf(TELL));
                }
            } else if (maybe("evening")) {
                if (!begun) {
                    throw new Fault(6, t.place);
                }
                if (evenings.size() == 9) {
                    throw new Fault(5, t.place);
                }
                List<Integer> hand = cardsTold(handSize);
                need("shows");
                List<Integer> row = cardsTold(shown);
                int set = 0;
                if (tilts && maybe("tilted")) {
                    do {
                        Token place = look();
                        int p = whole(0, shown - 1, 0);
                        if ((set >> p & 1) == 1) {
                            throw new Fault(3, place.place);
                        }
                        set |= 1 << p;
                    } while (comma());
                }
                if (!stranger) {
                    Collections.sort(hand);
                }
                evenings.add(new int[] {hands.indexOf(hand), rowNumbers.get(new Row(row, set).key())});
            } else {
                throw new Fault(1, t.place);
            }
        }

        private int oneOf(String[] words) {
            int i = Arrays.asList(words).indexOf(look().text);
            if (i < 0) {
                throw new Fault(1, look().place);
            }
            at++;
            return i;
        }

        private boolean comma() {
            if (look().sort == ',') {
                at++;
                return true;
            }
            return false;
        }

        private List<Integer> cardsTold(int count) {
            List<Integer> told = new ArrayList<>();
            for (int i = 0; i < count; i++) {
                if (i > 0 && !comma()) {
                    throw new Fault(1, look().place);
                }
                Token t = look();
                int c = whole(0, cards - 1, 0);
                if (told.contains(c)) {
                    throw new Fault(3, t.place);
                }
                told.add(c);
            }
            return told;
        }

        /** All rows of unlike numbers below n, or the rising ones, in order. */
        static List<List<Integer>> sequences(int n, int size, boolean rising) {
            List<List<Integer>> all = new ArrayList<>();
            extend(n, size, rising, new ArrayList<>(), all);
            return all;
        }

        private static void extend(int n, int size, boolean rising, List<Integer> row, List<List<Integer>> all) {
            if (row.size() == size) {
                all.add(new ArrayList<>(row));
                return;
            }
            for (int c = 0; c < n; c++) {
                if (!row.contains(c) && (!rising || row.isEmpty() || row.get(row.size() - 1) < c)) {
                    row.add(c);
                    extend(n, size, rising, row, all);
                    row.remove(row.size() - 1);
                }
            }
        }

        // -- hands, rows, rules

        boolean fit(int h, int r) {
            List<Integer> hand = hands.get(h);
            List<Integer> row = rows.get(r).cards;
            if (stranger) {
                int i = 0;
                for (int c : hand) {
                    if (i < row.size() && row.get(i) == c) {
                        i++;
                    }
                }
                return i == row.size();
            }
            List<Integer> sorted = new ArrayList<>(row);
            Collections.sort(sorted);
            return hand.containsAll(row) && (!held || sorted.equals(row));
        }

        List<Integer> fitting(int h) {
            Set<Integer> fit = new TreeSet<>();
            for (List<Integer> places : sequences(handSize, shown, stranger || held)) {
                List<Integer> row = new ArrayList<>();
                for (int p : places) {
                    row.add(hands.get(h).get(p));
                }
                for (int set = 0; set < (tilts ? 1 << shown : 1); set++) {
                    fit.add(rowNumbers.get(new Row(row, set).key()));
                }
            }
            return new ArrayList<>(fit);
        }

        List<Integer> laysAll(int kind) {
            List<Integer> all = new ArrayList<>();
            if (kind == 21) {
                findTable();
            }
            for (int h = 0; h < hands.size(); h++) {
                all.add(kind == 21 ? (table == null ? -2 : table.get(h)) : kind == 20 ? bySuit(h) : byWords(h, kind));
            }
            return all;
        }

        private int bySuit(int h) {
            if (stranger || held || kept != 1) {
                return -2;
            }
            int ranks = cards / suits;
            List<Integer> hand = hands.get(h);
            for (int a : hand) {
                for (int b : hand) {
                    if (a < b && a / ranks == b / ranks) {
                        int steps = Math.floorMod(b % ranks - a % ranks, ranks);
                        int base = a;
                        int hidden = b;
                        if (steps > ranks / 2.0) {
                            base = b;
                            hidden = a;
                            steps = ranks - steps;
                        }
                        List<Integer> others = new ArrayList<>(hand);
                        others.remove(Integer.valueOf(base));
                        others.remove(Integer.valueOf(hidden));
                        List<List<Integer>> orders = sequences(others.size(), others.size(), false);
                        if (steps - 1 >= orders.size()) {
                            return -2;
                        }
                        List<Integer> row = new ArrayList<>();
                        row.add(base);
                        for (int p : orders.get(steps - 1)) {
                            row.add(others.get(p));
                        }
                        return rowNumbers.get(new Row(row, 0).key());
                    }
                }
            }
            return -2;
        }

        private int byWords(int h, int words) {
            List<Integer> rising = new ArrayList<>(hands.get(h));
            Collections.sort(rising);
            int k = rising.size();
            int sum = rising.stream().mapToInt(x -> x).sum();
            int first = new int[] {0, k - 1, (k - kept) / 2, sum % k}[words / 5];
            TreeSet<Integer> hidden = new TreeSet<>();
            for (int i = 0; i < kept; i++) {
                hidden.add(rising.get((first + i) % k));
            }
            List<Integer> open = new ArrayList<>(hands.get(h));
            open.removeAll(hidden);
            int v = 0;
            for (int card : hidden) {
                v = v * cards + tell(words % 5, card, open, hidden, k);
            }
            int sets = tilts ? 1 << shown : 1;
            if (stranger || held) {
                return rowNumbers.get(new Row(open, v % sets).key());
            }
            Collections.sort(open);
            List<List<Integer>> orders = sequences(shown, shown, false);
            List<Integer> row = new ArrayList<>();
            for (int p : orders.get(v % orders.size())) {
                row.add(open.get(p));
            }
            return rowNumbers.get(new Row(row, v / orders.size() % sets).key());
        }

        private int tell(int tell, int card, List<Integer> open, Set<Integer> hidden, int k) {
            switch (tell) {
                case 0:
                    return card;
                case 1:
                    return card % (cards / suits);
                case 2:
                    int below = card;
                    int far = 0;
                    do {
                        below = (below + cards - 1) % cards;
                        far++;
                    } while (!open.contains(below));
                    return far;
                case 3:
                    int count = 0;
                    for (int c = 0; c < card; c++) {
                        if (!open.contains(c)) {
                            count++;
                        }
                    }
                    return count / k;
                default:
                    return hidden.stream().mapToInt(x -> x).sum() % cards;
            }
        }

        // -- pairing, by ways found again and again from nothing

        private List<List<Integer>> fits;
        private int[] holder;
        private int[] holding;
        private boolean[] tried;

        private boolean give(int h, Set<Integer> taken, int from) {
            for (int r : fits.get(h)) {
                if (!taken.contains(r) && holder[r] < 0) {
                    holder[r] = h;
                    return true;
                }
            }
            for (int r : fits.get(h)) {
                if (!taken.contains(r) && !tried[r]) {
                    tried[r] = true;
                    if (give(holder[r], taken, from)) {
                        holder[r] = h;
                        return true;
                    }
                }
            }
            return false;
        }

        private int pairUp(Set<Integer> taken, int from) {
            holder = new int[rows.size()];
            Arrays.fill(holder, -1);
            int count = 0;
            for (int h = from; h < hands.size(); h++) {
                tried = new boolean[rows.size()];
                if (give(h, taken, from)) {
                    count++;
                }
            }
            return count;
        }

        private void findFits() {
            fits = new ArrayList<>();
            for (int h = 0; h < hands.size(); h++) {
                fits.add(fitting(h));
            }
        }

        int pairs() {
            if (pairs < 0) {
                findFits();
                pairs = pairUp(new HashSet<>(), 0);
            }
            return pairs;
        }

        void findTable() {
            if (tableTried) {
                return;
            }
            tableTried = true;
            findFits();
            if (hands.size() > 300 || pairUp(new HashSet<>(), 0) < hands.size()) {
                return;
            }
            Set<Integer> taken = new HashSet<>();
            table = new ArrayList<>();
            for (int h = 0; h < hands.size(); h++) {
                for (int r : fits.get(h)) {
                    if (taken.add(r)) {
                        if (pairUp(taken, h + 1) == hands.size() - h - 1) {
                            table.add(r);
                            break;
                        }
                        taken.remove(r);
                    }
                }
            }
        }

        // -- the calls

        private int no(int why) {
            trouble = why;
            return -1;
        }

        private int yes(int answer) {
            trouble = 0;
            return answer;
        }

        private boolean rule(int rule) {
            return rule >= 0 && rule < rules.size();
        }

        private boolean hand(int h) {
            return h >= 0 && h < hands.size();
        }

        private boolean row(int r) {
            return r >= 0 && r < rows.size();
        }

        private List<Integer> laid(int rule) {
            if (lays.get(rule) == null) {
                lays.set(rule, laysAll(rules.get(rule)));
            }
            return lays.get(rule);
        }

        private static boolean works(List<Integer> laid) {
            return !laid.contains(-2) && new HashSet<>(laid).size() == laid.size();
        }

        private Set<Integer> becomes(int r) {
            Set<Integer> all = new HashSet<>();
            Row row = rows.get(r);
            for (int i = 0; i + 1 < shown; i++) {
                List<Integer> c = new ArrayList<>(row.cards);
                Collections.swap(c, i, i + 1);
                int low = row.tilts >> i & 1;
                int high = row.tilts >> (i + 1) & 1;
                int rest = row.tilts & ~(3 << i);
                all.add(rowNumbers.get(new Row(c, rest | high << i | low << (i + 1)).key()));
            }
            return all;
        }

        private boolean seen(int rule) {
            Set<Integer> all = new HashSet<>(laid(rule));
            all.remove(-2);
            for (int r : all) {
                for (int other : becomes(r)) {
                    if (all.contains(other)) {
                        return false;
                    }
                }
            }
            return true;
        }

        private boolean borne(int rule) {
            Set<Integer> all = new HashSet<>(laid(rule));
            all.remove(-2);
            Set<Integer> met = new HashSet<>();
            for (int r : all) {
                Set<Integer> mine = becomes(r);
                mine.add(r);
                for (int other : mine) {
                    if (!met.add(other)) {
                        return false;
                    }
                }
            }
            return seen(rule);
        }

        private long countOf(int n, boolean ofRows) {
            long c = 1;
            int k = ofRows ? shown : handSize;
            boolean set = ofRows ? held : !stranger;
            for (int i = 0; i < k; i++) {
                c *= n - i;
            }
            for (int i = 2; set && i <= k; i++) {
                c /= i;
            }
            return ofRows && tilts ? c << shown : c;
        }

        private int apart(int a, int b) {
            int count = 0;
            for (int h = 0; h < hands.size(); h++) {
                if (!laid(a).get(h).equals(laid(b).get(h))) {
                    count++;
                }
            }
            return count;
        }

        private int firstWrong(int rule) {
            for (int e = 0; e < evenings.size(); e++) {
                if (laid(rule).get(evenings.get(e)[0]) != evenings.get(e)[1]) {
                    return e;
                }
            }
            return -2;
        }

        private int clash(int rule, boolean ahead) {
            for (int h = 0; h < hands.size(); h++) {
                for (int g = 0; g < h; g++) {
                    if (laid(rule).get(g) >= 0 && laid(rule).get(g).equals(laid(rule).get(h))) {
                        return ahead ? g : h;
                    }
                }
            }
            return -2;
        }

        private int led(int rule, int i) {
            List<Integer> none = new ArrayList<>();
            for (int h = 0; rule(rule) && h < hands.size(); h++) {
                if (laid(rule).get(h) == -2) {
                    none.add(h);
                }
            }
            return i >= 0 && i < none.size() ? none.get(i) : -77;
        }

        private int size(int what) {
            int[] all = {cards, suits, handSize, kept, stranger ? 1 : 0, held ? 1 : 0, tilts ? 1 : 0, rules.size(),
                evenings.size(), seed, imageSeeds.size(), tape.size()};
            return what >= 0 && what < all.length ? all[what] : -1;
        }

        private int handOf(int[] a) {
            List<Integer> told = new ArrayList<>();
            for (int i = 0; i < 5; i++) {
                if (i < handSize && a[i] >= 0 && a[i] < cards && !told.contains(a[i])) {
                    told.add(a[i]);
                } else if (i < handSize || a[i] != -1) {
                    return no(2);
                }
            }
            if (!stranger) {
                Collections.sort(told);
            }
            return yes(hands.indexOf(told));
        }

        private int keptCard(int rule, int h, int i) {
            int r = laid(rule).get(h);
            if (r < 0) {
                return no(6);
            }
            List<Integer> left = new ArrayList<>(hands.get(h));
            left.removeAll(rows.get(r).cards);
            Collections.sort(left);
            return yes(left.get(i));
        }

        private int mean(int a, int b, boolean lower) {
            int apart = apart(a, b);
            if (apart == 0) {
                return no(6);
            }
            int g = 1;
            for (int d = 1; d <= apart; d++) {
                if (apart % d == 0 && hands.size() % d == 0) {
                    g = d;
                }
            }
            return yes((lower ? apart : hands.size()) / g);
        }

        private int hardest() {
            int best = -1;
            int least = Integer.MAX_VALUE;
            for (int a = 0; a < rules.size(); a++) {
                int mine = Integer.MAX_VALUE;
                for (int b = 0; b < rules.size(); b++) {
                    if (a != b) {
                        mine = Math.min(mine, apart(a, b));
                    }
                }
                if (mine < least) {
                    least = mine;
                    best = a;
                }
            }
            return yes(best);
        }

        private int feed(int[] a) {
            if (tape.size() + 20 > 900) {
                return -1;
            }
            for (int v : a) {
                tape.add(v >>> 24);
                tape.add(v >>> 16 & 255);
                tape.add(v >>> 8 & 255);
                tape.add(v & 255);
            }
            return tape.size();
        }

        long call(String name, int[] a) {
            switch (name) {
                case "feed": return feed(a);
                case "trick": return trick(a[0]);
                case "fault": return fault;
                case "where": return trouble == 4 ? place : -1;
                case "trouble": return trouble;
                case "size": return size(a[0]);
                case "words": return rule(a[0]) ? rules.get(a[0]) : -1;
                case "led": return led(a[0], a[1]);
                case "strike":
                    if (evenings.isEmpty()) {
                        return no(6) + 1;
                    }
                    evenings.remove(evenings.size() - 1);
                    return yes(1);
                case "back":
                    if (a[0] < 0 || a[0] >= imageSeeds.size()) {
                        return no(1) + 1;
                    }
                    evenings = new ArrayList<>(imageEvenings.get(a[0]));
                    seed = imageSeeds.get(a[0]);
                    return yes(1);
                case "seed":
                    if (!begun) {
                        return no(1) + 1;
                    }
                    if (a[0] < 0 || a[0] > 65536) {
                        return no(2) + 1;
                    }
                    seed = a[0];
                    return yes(1);
                default:
                    return begun ? callBegun(name, a) : no(1);
            }
        }

        private long callBegun(String name, int[] a) {
            switch (name) {
                case "hands": return yes(hands.size());
                case "rows": return yes(rows.size());
                case "hand": return hand(a[0]) && a[1] >= 0 && a[1] < handSize ? yes(hands.get(a[0]).get(a[1])) : no(1);
                case "handOf": return handOf(a);
                case "row": return row(a[0]) && a[1] >= 0 && a[1] < shown ? yes(rows.get(a[0]).cards.get(a[1])) : no(1);
                case "tilted": return row(a[0]) ? yes(rows.get(a[0]).tilts) : no(1);
                case "fits": return hand(a[0]) && row(a[1]) ? yes(fit(a[0], a[1]) ? 1 : 0) : no(1);
                case "fitting": return yes(fitting(0).size());
                case "wordsWork": return a[0] < 0 || a[0] > 19 ? no(2) : yes(works(laysAll(a[0])) ? 1 : 0);
                case "shortest":
                    for (int w = 0; w < 20; w++) {
                        if (works(laysAll(w))) {
                            return yes(w);
                        }
                    }
                    return yes(-2);
                case "pairs": return yes(pairs());
                case "table":
                    if (!hand(a[0])) {
                        return no(1);
                    }
                    if (hands.size() > 300) {
                        return no(3);
                    }
                    findTable();
                    return yes(table == null ? -2 : table.get(a[0]));
                case "count":
                    if (a[0] < handSize || a[0] > 200) {
                        return no(2);
                    }
                    trouble = 0;
                    return countOf(a[0], a[1] == 1);
                case "most":
                    int most = -2;
                    for (int n = handSize; n <= 200; n++) {
                        if (countOf(n, false) <= countOf(n, true)) {
                            most = n;
                        }
                    }
                    return yes(most);
                case "judge": return evening(a[0]) ? yes(fit(evenings.get(a[0])[0], evenings.get(a[0])[1]) ? 1 : 0) : no(1);
                case "evening": return evening(a[0]) ? yes(evenings.get(a[0])[a[1] == 1 ? 1 : 0]) : no(1);
                case "found":
                    int bits = 0;
                    for (int r = 0; r < rules.size(); r++) {
                        if (firstWrong(r) == -2) {
                            bits += 1 << r;
                        }
                    }
                    return yes(bits);
                case "hardest": return rules.size() < 2 ? no(6) : hardest();
                case "draw":
                    seed = (75 * seed + 74) % 65537;
                    return yes(seed % hands.size());
                case "image":
                    if (imageSeeds.size() == 3) {
                        return no(3);
                    }
                    imageEvenings.add(new ArrayList<>(evenings));
                    imageSeeds.add(seed);
                    return yes(imageSeeds.size() - 1);
                default:
                    return rule(a[0]) ? callRule(name, a) : no(1);
            }
        }

        private boolean evening(int e) {
            return e >= 0 && e < evenings.size();
        }

        private long callRule(String name, int[] a) {
            List<Integer> laid = laid(a[0]);
            switch (name) {
                case "lays": return hand(a[1]) ? yes(laid.get(a[1])) : no(1);
                case "kept": return hand(a[1]) && a[2] >= 0 && a[2] < kept ? keptCard(a[0], a[1], a[2]) : no(1);
                case "says": return row(a[1]) ? yes(laid.contains(a[1]) ? laid.indexOf(a[1]) : -2) : no(1);
                case "works": return yes(works(laid) ? 1 : 0);
                case "clash": return yes(clash(a[0], a[1] == 1));
                case "laid":
                    Set<Integer> unlike = new HashSet<>(laid);
                    unlike.remove(-2);
                    return yes(unlike.size());
                case "fails": return yes(Collections.frequency(laid, -2));
                case "seen": return yes(seen(a[0]) ? 1 : 0);
                case "borne": return yes(borne(a[0]) ? 1 : 0);
                case "agrees":
                    int count = 0;
                    for (int[] e : evenings) {
                        if (laid.get(e[0]) == e[1]) {
                            count++;
                        }
                    }
                    return yes(count);
                case "wrong": return yes(firstWrong(a[0]));
                case "apart": return rule(a[1]) && a[0] != a[1] ? yes(apart(a[0], a[1])) : no(1);
                case "mean": return rule(a[1]) && a[0] != a[1] ? mean(a[0], a[1], a[2] == 1) : no(1);
                case "shows":
                    if (!hand(a[1])) {
                        return no(1);
                    }
                    if (laid.get(a[1]) < 0) {
                        return no(6);
                    }
                    if (evenings.size() == 20) {
                        return no(3);
                    }
                    evenings.add(new int[] {a[1], laid.get(a[1])});
                    return yes(evenings.size() - 1);
                default: throw new IllegalArgumentException(name);
            }
        }
    }
}
