import java.util.ArrayList;
import java.util.Arrays;

/** Runs of cards and guesses, their odds, leaks, screens, series and rules; see README.md. */
public final class FiveCards {
    public static final int NONE = -1;
    public static final int BAD = -2;
    public static final int STATE = -3;
    public static final int FULL = -4;
    public static final long NO = -4611686018427387904L;

    private static final int NOTHING = -11;
    private static final int OUTSIDE = -12;
    private static final int UNLIKE = -13;
    private static final int BELOW_ZERO = -14;
    private static final int NOT_TOLD = -1000000;
    private static final int FAULTY = -100;

    private static final int MOST_PACKS = 4;
    private static final int MOST_RUNS = 16;
    private static final int MOST_LEAKS = 10;
    private static final int MOST_SCREENS = 6;
    private static final int MOST_TEXTS = 6;
    private static final int MOST_CARDS = 25;
    private static final int SIGNS = 5;
    private static final int GUESSERS = 8;
    private static final int DAYS = 100;
    private static final int LAST_SEED = 99999;
    private static final int KINDS = 6;
    private static final int SHEETS = 4;
    private static final int TAPE_BYTES = 160;

    private static final String FIRST_RULE = "stop 8 < hits ; keep 4 < hits ; say hits - leaks - 5 ;";

    private final ArrayList<Pack> packs = new ArrayList<>();
    private final ArrayList<Run> runs = new ArrayList<>();
    private final ArrayList<Leak> leaks = new ArrayList<>();
    private final ArrayList<Screen> screens = new ArrayList<>();
    private final ArrayList<Text> texts = new ArrayList<>();
    private final Sheet[] sheets = new Sheet[SHEETS];
    private final Tape tape = new Tape();
    private final Reader reader = new Reader();
    private final Odds odds = new Odds();
    private final int[] names = new int[Tokens.NAMES];
    private int rule;
    private int imageRuns = NONE;
    private int imageLeaks;
    private int imageRule;

    public FiveCards() {
        for (int k = 0; k < SHEETS; k++) {
            sheets[k] = new Sheet();
        }
        for (int k = 0; k < FIRST_RULE.length(); k++) {
            tape.add(FIRST_RULE.charAt(k));
        }
        readTape();
    }

    // ---- packs, runs

    public int pack(int counts) {
        if (!within(counts, 0, 99999)) {
            return BAD;
        }
        Pack made = new Pack(counts);
        if (!within(made.cards, 1, MOST_CARDS)) {
            return BAD;
        }
        if (packs.size() >= MOST_PACKS) {
            return FULL;
        }
        packs.add(made);
        return packs.size() - 1;
    }

    public int run(int pack, int guesser, int day) {
        if (!among(pack, packs.size()) || !among(guesser, GUESSERS) || !among(day, DAYS)) {
            return BAD;
        }
        if (runs.size() >= MOST_RUNS) {
            return FULL;
        }
        runs.add(new Run(pack, packs.get(pack), guesser, day));
        return runs.size() - 1;
    }

    public int at(int run, int i, int what) {
        if (!isPlace(run, i) || !among(what, 2)) {
            return BAD;
        }
        Run asked = runs.get(run);
        return what == 0 ? asked.cards[i] : asked.guesses[i];
    }

    public int guess(int run, int sheet, int i) {
        if (!isPlace(run, i) || !among(sheet, SHEETS)) {
            return BAD;
        }
        if (sheets[sheet].isMissing()) {
            return NOTHING;
        }
        return runs.get(run).takeGuesses(sheets[sheet], i);
    }

    public int slip(int run, int i, int sign) {
        if (!isPlace(run, i) || !among(sign, SIGNS)) {
            return BAD;
        }
        return runs.get(run).writeAnew(i, sign);
    }

    public int cut(int run, int k) {
        if (!among(run, runs.size()) || !within(k, 0, runs.get(run).cards.length)) {
            return BAD;
        }
        runs.get(run).cutAt(k);
        return 1;
    }

    public int shuffle(int run, int seed) {
        if (!among(run, runs.size()) || !within(seed, 0, LAST_SEED)) {
            return BAD;
        }
        Run shuffled = runs.get(run);
        Run.mix(shuffled.cards, seed);
        return shuffled.hits();
    }

    public int told(int run, int what) {
        if (!among(run, runs.size())) {
            return NOT_TOLD;
        }
        Run asked = runs.get(run);
        switch (what) {
            case 0: return asked.packNumber;
            case 1: return asked.guesser;
            case 2: return asked.day;
            case 3: return asked.cards.length;
            case 4: return asked.hits();
            case 5: return asked.nextHits();
            case 6: return asked.hitsByLeft();
            case 7: return asked.alike();
            case 8: return bound(asked);
            case 9: return asked.hits() > bound(asked) + asked.cards.length / 5 ? 1 : 0;
            case 10: return asked.slips;
            case 11: return asked.putIn;
            case 12: return ruled(run, Text.KEEP) != 0 ? 1 : 0;
            case 13: return ruled(run, Text.SAY);
            default: return NOT_TOLD;
        }
    }

    public long exact(int run, int hits, int part) {
        if (!among(run, runs.size()) || !within(hits, 0, MOST_CARDS) || !among(part, 2)) {
            return NO;
        }
        odds.work(runs.get(run));
        return part == 0 ? odds.ordersWith(hits) : odds.allOrders();
    }

    // ---- leaks, screens

    public int leak(int kind, int number, int sign) {
        if (!among(kind, KINDS) || !within(number, 0, MOST_CARDS) || !among(sign, SIGNS)) {
            return BAD;
        }
        if (leaks.size() >= MOST_LEAKS) {
            return FULL;
        }
        leaks.add(new Leak(kind, number, sign));
        return leaks.size() - 1;
    }

    public int shut(int leak, int is) {
        if (!among(leak, leaks.size()) || !among(is, 2)) {
            return BAD;
        }
        Leak changed = leaks.get(leak);
        int was = changed.isShut ? 1 : 0;
        changed.isShut = is == 1;
        return was;
    }

    public int gives(int leak, int run) {
        if (!among(leak, leaks.size()) || !among(run, runs.size())) {
            return BAD;
        }
        return leaks.get(leak).mostHits(runs.get(run));
    }

    public int counts(int leak) {
        if (!among(leak, leaks.size())) {
            return BAD;
        }
        return leaks.get(leak).weight();
    }

    public int screen(int hours, int kinds) {
        if (!within(hours, 1, 50) || !isBits(kinds, KINDS)) {
            return BAD;
        }
        if (screens.size() >= MOST_SCREENS) {
            return FULL;
        }
        screens.add(new Screen(hours, kinds));
        return screens.size() - 1;
    }

    public int plan(int leaks, int what) {
        if (!isBits(leaks, this.leaks.size()) || !among(what, 2)) {
            return BAD;
        }
        int asked = kindsOfLeaks(leaks);
        int best = NONE;
        int fewest = 0;
        for (int set = 0; set < 1 << screens.size(); set++) {
            if ((asked & ~kindsShutBy(set)) != 0) {
                continue;
            }
            int hours = hoursOf(set);
            if (best == NONE || hours < fewest) {
                best = set;
                fewest = hours;
            }
        }
        return best == NONE || what == 0 ? best : fewest;
    }

    public int weighs(int screens) {
        if (!isBits(screens, this.screens.size())) {
            return BAD;
        }
        int shut = kindsShutBy(screens);
        int sum = 0;
        for (int k = 0; k < leaks.size(); k++) {
            Leak leak = leaks.get(k);
            if ((shut >> leak.kind & 1) == 0) {
                sum += leak.weight();
            }
        }
        return sum;
    }

    // ---- texts

    public int feed(int n, long bytes) {
        if (!within(n, 1, 8)) {
            return BAD;
        }
        if (tape.size + n > TAPE_BYTES) {
            return FULL;
        }
        for (int k = 0; k < n; k++) {
            tape.add((int) (bytes >>> 8 * k) & 255);
        }
        return tape.size;
    }

    public int text() {
        if (texts.size() >= MOST_TEXTS) {
            return FULL;
        }
        int fault = readTape();
        return fault == NONE ? texts.size() - 1 : FAULTY - fault;
    }

    public int force(int text) {
        if (!among(text, texts.size())) {
            return BAD;
        }
        int was = rule;
        rule = text;
        return was;
    }

    // ---- series

    public long series(int guesser, int kept, int what) {
        if (!among(guesser, GUESSERS) || !among(kept, 2) || !among(what, 6)) {
            return NO;
        }
        int many = 0;
        int hits = 0;
        Fraction expected = new Fraction();
        for (int k = 0; k < runs.size(); k++) {
            Run run = runs.get(k);
            if (run.guesser != guesser || kept == 1 && ruled(k, Text.KEEP) == 0) {
                continue;
            }
            many++;
            hits += run.hits();
            expected.add(run.expectedAbove(), run.cards.length);
            if (kept == 0 && ruled(k, Text.STOP) != 0) {
                break;
            }
        }
        switch (what) {
            case 0: return many;
            case 1: return hits;
            case 2: return expected.above;
            case 3: return expected.below;
            case 4: return (long) hits * expected.below - expected.above;
            // a whole number less a fraction in lowest terms keeps what is below its line
            default: return expected.below;
        }
    }

    public int best(int day) {
        if (!within(day, 0, DAYS)) {
            return BAD;
        }
        int best = NONE;
        int bestHits = 0;
        int bestMany = 0;
        for (int guesser = 0; guesser < GUESSERS; guesser++) {
            int hits = hitsInDays(guesser, 0, day);
            int many = runsInDays(guesser, 0, day);
            if (many > 0 && (best == NONE || hits * bestMany > bestHits * many)) {
                best = guesser;
                bestHits = hits;
                bestMany = many;
            }
        }
        return best;
    }

    public long falls(int guesser, int day, int part) {
        if (!among(guesser, GUESSERS) || !within(day, 0, DAYS) || !among(part, 2)) {
            return NO;
        }
        Fraction fall = new Fraction();
        int ahead = runsInDays(guesser, 0, day);
        int behind = runsInDays(guesser, day, DAYS);
        if (ahead > 0 && behind > 0) {
            fall.add(hitsInDays(guesser, 0, day), ahead);
            fall.add(-hitsInDays(guesser, day, DAYS), behind);
        }
        return part == 0 ? fall.above : fall.below;
    }

    public int mixed(int run, int seed, int n) {
        if (!among(run, runs.size()) || !within(seed, 0, LAST_SEED) || !within(n, 1, 50)) {
            return BAD;
        }
        Run asked = runs.get(run);
        int hits = asked.hits();
        int sum = 0;
        for (int k = 0; k < n; k++) {
            if (asked.hitsIfShuffled(seed + k) >= hits) {
                sum++;
            }
        }
        return sum;
    }

    public int image() {
        imageRuns = runs.size();
        imageLeaks = leaks.size();
        imageRule = rule;
        for (int k = 0; k < imageRuns; k++) {
            runs.get(k).keep();
        }
        for (int k = 0; k < imageLeaks; k++) {
            leaks.get(k).wasShut = leaks.get(k).isShut;
        }
        return imageRuns;
    }

    public int back() {
        if (imageRuns == NONE) {
            return STATE;
        }
        rule = imageRule;
        for (int k = 0; k < imageRuns && k < runs.size(); k++) {
            runs.get(k).layBack();
        }
        for (int k = 0; k < imageLeaks && k < leaks.size(); k++) {
            leaks.get(k).isShut = leaks.get(k).wasShut;
        }
        // RUNS that came since stay, so they are counted too
        return runs.size();
    }

    public int count(int what) {
        switch (what) {
            case 0: return packs.size();
            case 1: return runs.size();
            case 2: return leaks.size();
            case 3: return screens.size();
            case 4: return texts.size();
            case 5: return tape.size;
            case 6: return rule;
            case 7: return hitsOfAll();
            default: return BAD;
        }
    }

    // ---- the host

    public int sheet(int sheet, int sort, int n) {
        if (!among(sheet, SHEETS) || !within(sort, Sheet.MISSING, Sheet.INTS)) {
            return BAD;
        }
        int size = sort == Sheet.MISSING ? 0 : n;
        if (size > Sheet.MOST_ITEMS) {
            return BAD;
        }
        if (size < 0) {
            return BELOW_ZERO;
        }
        sheets[sheet].become(sort, size);
        return 1;
    }

    public int cell(int sheet, int i, int v) {
        if (!among(sheet, SHEETS)) {
            return BAD;
        }
        Sheet changed = sheets[sheet];
        if (changed.isMissing()) {
            return NOTHING;
        }
        if (!among(i, changed.size)) {
            return OUTSIDE;
        }
        changed.write(i, v);
        return 1;
    }

    public int copy(int sheet, int i, int other, int j, int n) {
        if (!among(sheet, SHEETS) || !among(other, SHEETS)) {
            return BAD;
        }
        Sheet source = sheets[sheet];
        Sheet target = sheets[other];
        if (source.isMissing() || target.isMissing()) {
            return NOTHING;
        }
        if (source.sort != target.sort) {
            return UNLIKE;
        }
        if (!source.holds(i, n) || !target.holds(j, n)) {
            return OUTSIDE;
        }
        System.arraycopy(source.items, i, target.items, j, n);
        return n;
    }

    public int runs(int sheet, int sort, int from, int n) {
        if (!among(sheet, SHEETS) || !within(sort, Sheet.BYTES, Sheet.INTS) || !within(n, 0, 12)) {
            return BAD;
        }
        Sheet source = sheets[sheet];
        // what is missing is of no sort, so it can't be of another one
        if (!source.isMissing() && source.sort != sort) {
            return UNLIKE;
        }
        if (source.isMissing()) {
            return NOTHING;
        }
        int came = 0;
        for (int k = 0; k < n; k++) {
            int first = from + 3 * k;
            if (!source.holds(first, 3)) {
                return OUTSIDE;
            }
            if (run(source.items[first], source.items[first + 1], source.items[first + 2]) >= 0) {
                came++;
            }
        }
        return came;
    }

    public int taken(int leak, int k) {
        if (!among(k, KINDS)) {
            return BAD;
        }
        if (!among(leak, leaks.size())) {
            return NOTHING;
        }
        return leaks.get(leak).isUnder(k) ? leaks.get(leak).number : UNLIKE;
    }

    // ---- what several calls need

    private static boolean within(int value, int least, int most) {
        return least <= value && value <= most;
    }

    private static boolean among(int number, int size) {
        return 0 <= number && number < size;
    }

    private static boolean isBits(int set, int size) {
        return 0 <= set && set < 1 << size;
    }

    private boolean isPlace(int run, int i) {
        return among(run, runs.size()) && among(i, runs.get(run).cards.length);
    }

    private int readTape() {
        int fault = reader.read(tape);
        tape.size = 0;
        if (fault == NONE) {
            texts.add(reader.textRead());
        }
        return fault;
    }

    private int bound(Run run) {
        int sum = 0;
        for (int k = 0; k < leaks.size(); k++) {
            sum += leaks.get(k).mostHits(run);
        }
        return Math.min(sum, run.cards.length);
    }

    /** What a part of THE RULE comes to for a RUN that there is. */
    private int ruled(int number, int part) {
        Run run = runs.get(number);
        boolean isSaid = part == Text.SAY;
        int hits = run.hits();
        names[Tokens.HITS] = hits;
        names[Tokens.RUN] = isSaid ? 0 : runsTill(number) - 1;
        names[Tokens.ALL] = isSaid ? hits : hitsTill(number);
        names[Tokens.LEAKS] = bound(run);
        names[Tokens.DAY] = run.day;
        names[Tokens.NEXT] = run.nextHits();
        return texts.get(rule).value(part, names);
    }

    private int runsTill(int number) {
        int guesser = runs.get(number).guesser;
        int sum = 0;
        for (int k = 0; k <= number; k++) {
            sum += runs.get(k).guesser == guesser ? 1 : 0;
        }
        return sum;
    }

    private int hitsTill(int number) {
        int guesser = runs.get(number).guesser;
        int sum = 0;
        for (int k = 0; k <= number; k++) {
            sum += runs.get(k).guesser == guesser ? runs.get(k).hits() : 0;
        }
        return sum;
    }

    private int runsInDays(int guesser, int from, int end) {
        int sum = 0;
        for (int k = 0; k < runs.size(); k++) {
            sum += runs.get(k).isOf(guesser, from, end) ? 1 : 0;
        }
        return sum;
    }

    private int hitsInDays(int guesser, int from, int end) {
        int sum = 0;
        for (int k = 0; k < runs.size(); k++) {
            sum += runs.get(k).isOf(guesser, from, end) ? runs.get(k).hits() : 0;
        }
        return sum;
    }

    private int hitsOfAll() {
        int sum = 0;
        for (int k = 0; k < runs.size(); k++) {
            sum += runs.get(k).hits();
        }
        return sum;
    }

    private int kindsOfLeaks(int set) {
        int kinds = 0;
        for (int k = 0; k < leaks.size(); k++) {
            if ((set >> k & 1) == 1) {
                kinds |= 1 << leaks.get(k).kind;
            }
        }
        return kinds;
    }

    private int kindsShutBy(int set) {
        int kinds = 0;
        for (int k = 0; k < screens.size(); k++) {
            if ((set >> k & 1) == 1) {
                kinds |= screens.get(k).kinds;
            }
        }
        return kinds;
    }

    private int hoursOf(int set) {
        int hours = 0;
        for (int k = 0; k < screens.size(); k++) {
            if ((set >> k & 1) == 1) {
                hours += screens.get(k).hours;
            }
        }
        return hours;
    }

    private static final class Pack {
        final int[] cardsOf = new int[SIGNS];
        final int cards;

        Pack(int digits) {
            int rest = digits;
            int sum = 0;
            for (int sign = SIGNS - 1; sign >= 0; sign--) {
                cardsOf[sign] = rest % 10;
                sum += rest % 10;
                rest /= 10;
            }
            cards = sum;
        }
    }

    private static final class Run {
        final int packNumber;
        final Pack pack;
        final int guesser;
        final int day;
        final int[] cards;
        final int[] guesses;
        int slips;
        int putIn;
        private final int[] spare;
        private final int[] left = new int[SIGNS];
        private final int[] keptCards;
        private final int[] keptGuesses;
        private int keptSlips;
        private int keptPutIn;

        Run(int packNumber, Pack pack, int guesser, int day) {
            this.packNumber = packNumber;
            this.pack = pack;
            this.guesser = guesser;
            this.day = day;
            cards = new int[pack.cards];
            guesses = new int[pack.cards];
            spare = new int[pack.cards];
            keptCards = new int[pack.cards];
            keptGuesses = new int[pack.cards];
            int place = 0;
            for (int sign = 0; sign < SIGNS; sign++) {
                for (int k = 0; k < pack.cardsOf[sign] && place < cards.length; k++) {
                    cards[place] = sign;
                    place++;
                }
            }
        }

        boolean isOf(int asked, int from, int end) {
            return guesser == asked && from <= day && day < end;
        }

        int hits() {
            return hitsAmong(cards);
        }

        private int hitsAmong(int[] row) {
            int sum = 0;
            for (int i = 0; i < row.length && i < guesses.length; i++) {
                sum += guesses[i] == row[i] ? 1 : 0;
            }
            return sum;
        }

        int nextHits() {
            int sum = 0;
            for (int i = 0; i + 1 < cards.length; i++) {
                sum += guesses[i] == cards[i + 1] ? 1 : 0;
            }
            return sum;
        }

        int alike() {
            int sum = 0;
            for (int i = 1; i < cards.length; i++) {
                sum += cards[i] == cards[i - 1] ? 1 : 0;
            }
            return sum;
        }

        int hitsByLeft() {
            System.arraycopy(pack.cardsOf, 0, left, 0, SIGNS);
            int sum = 0;
            for (int i = 0; i < cards.length; i++) {
                sum += cards[i] == mostLeft() ? 1 : 0;
                left[cards[i]]--;
            }
            return sum;
        }

        private int mostLeft() {
            int most = 0;
            for (int sign = 1; sign < SIGNS; sign++) {
                if (left[sign] > left[most]) {
                    most = sign;
                }
            }
            return most;
        }

        int guessesOf(int sign) {
            int sum = 0;
            for (int i = 0; i < guesses.length; i++) {
                sum += guesses[i] == sign ? 1 : 0;
            }
            return sum;
        }

        /** EXPECTED of this RUN alone, above the line; below it stand its CARDS. */
        int expectedAbove() {
            int sum = 0;
            for (int sign = 0; sign < SIGNS; sign++) {
                sum += pack.cardsOf[sign] * guessesOf(sign);
            }
            return sum;
        }

        int takeGuesses(Sheet sheet, int from) {
            int came = 0;
            for (int k = 0; k < sheet.size && from + k < guesses.length; k++) {
                if (!among(sheet.items[k], SIGNS)) {
                    break;
                }
                guesses[from + k] = sheet.items[k];
                came++;
            }
            return came;
        }

        int writeAnew(int i, int sign) {
            int was = guesses[i];
            slips++;
            putIn += sign == cards[i] ? 1 : 0;
            putIn -= was == cards[i] ? 1 : 0;
            guesses[i] = sign;
            return was;
        }

        void cutAt(int k) {
            int behind = cards.length - k;
            System.arraycopy(cards, 0, spare, 0, cards.length);
            System.arraycopy(spare, k, cards, 0, behind);
            System.arraycopy(spare, 0, cards, behind, k);
        }

        int hitsIfShuffled(int seed) {
            System.arraycopy(cards, 0, spare, 0, cards.length);
            mix(spare, seed);
            return hitsAmong(spare);
        }

        static void mix(int[] row, int seed) {
            long lot = seed + 1;
            for (int place = row.length - 1; place > 0; place--) {
                lot = lot * 48271 % 2147483647;
                int other = (int) (lot % (place + 1));
                int card = row[place];
                row[place] = row[other];
                row[other] = card;
            }
        }

        void keep() {
            System.arraycopy(cards, 0, keptCards, 0, cards.length);
            System.arraycopy(guesses, 0, keptGuesses, 0, guesses.length);
            keptSlips = slips;
            keptPutIn = putIn;
        }

        void layBack() {
            System.arraycopy(keptCards, 0, cards, 0, cards.length);
            System.arraycopy(keptGuesses, 0, guesses, 0, guesses.length);
            slips = keptSlips;
            putIn = keptPutIn;
        }
    }

    /**
     * EXACT. For every m it sums, over all choices of m places, the orders in which these are HITS
     * whatever the others are; an order with h HITS is counted in that once for each m of its h,
     * and the alternating sum takes what is counted too often away again.
     */
    private static final class Odds {
        private final long[] chosen = new long[MOST_CARDS + 1];

        void work(Run run) {
            Arrays.fill(chosen, 0L);
            chosen[0] = 1;
            int cards = 0;
            for (int sign = 0; sign < SIGNS; sign++) {
                int more = run.pack.cardsOf[sign];
                cards += more;
                addSign(cards, more, run.guessesOf(sign));
            }
        }

        // downward, so that what stands below is still without this sign
        private void addSign(int cards, int more, int guesses) {
            for (int m = MOST_CARDS; m >= 0; m--) {
                long sum = 0;
                for (int k = 0; k <= more && k <= m; k++) {
                    sum += chosen[m - k] * choices(guesses, k) * choices(cards - m, more - k);
                }
                chosen[m] = sum;
            }
        }

        long allOrders() {
            return chosen[0];
        }

        // terms may pass a long's bounds; the answer doesn't, so it comes out right all the same
        long ordersWith(int hits) {
            long sum = 0;
            for (int m = hits; m <= MOST_CARDS; m++) {
                long term = choices(m, hits) * chosen[m];
                sum += (m - hits) % 2 == 0 ? term : -term;
            }
            return sum;
        }

        private static long choices(int of, int k) {
            if (k < 0 || k > of) {
                return 0;
            }
            long product = 1;
            for (int i = 1; i <= k; i++) {
                product = product * (of - k + i) / i;
            }
            return product;
        }
    }

    private static final class Leak {
        private static final int SEEN = 1;
        private static final int HEARD = 2;
        private static final int ORDERED = 3;
        private static final int WRITTEN = 4;
        private static final int PUT = 5;
        private static final int[] UNDER = {NONE, 0, 0, 0, HEARD, WRITTEN};
        private static final int[] WEIGHTS = {1, 2, 1, 4, 2, 4};

        final int kind;
        final int number;
        final int sign;
        boolean isShut;
        boolean wasShut;

        Leak(int kind, int number, int sign) {
            this.kind = kind;
            this.number = number;
            this.sign = sign;
        }

        boolean isUnder(int asked) {
            int upper = kind;
            for (int step = 0; step < KINDS && upper != NONE; step++) {
                if (upper == asked) {
                    return true;
                }
                upper = UNDER[upper];
            }
            return false;
        }

        int weight() {
            return WEIGHTS[kind];
        }

        int mostHits(Run run) {
            return isShut ? 0 : Math.min(openHits(run), run.cards.length);
        }

        private int openHits(Run run) {
            int heard = Math.min(number, run.pack.cardsOf[sign]);
            switch (kind) {
                case SEEN: return 2 * number;
                case HEARD: return heard;
                case ORDERED: return number + run.alike() / 5;
                case WRITTEN: return heard + 1;
                case PUT: return 2 * (heard + 1);
                default: return number;
            }
        }
    }

    private static final class Screen {
        final int hours;
        final int kinds;

        Screen(int hours, int kinds) {
            this.hours = hours;
            this.kinds = kinds;
        }
    }

    private static final class Sheet {
        static final int MISSING = -1;
        static final int BYTES = 0;
        static final int SHORTS = 1;
        static final int INTS = 2;
        static final int MOST_ITEMS = 40;

        final int[] items = new int[MOST_ITEMS];
        int sort = MISSING;
        int size;

        boolean isMissing() {
            return sort == MISSING;
        }

        void become(int newSort, int newSize) {
            sort = newSort;
            size = newSize;
            Arrays.fill(items, 0);
        }

        boolean holds(int from, int n) {
            return from >= 0 && n >= 0 && n <= size && from <= size - n;
        }

        void write(int i, int v) {
            switch (sort) {
                case BYTES: items[i] = (byte) v; break;
                case SHORTS: items[i] = (short) v; break;
                default: items[i] = v; break;
            }
        }
    }

    private static final class Tape {
        final int[] bytes = new int[TAPE_BYTES];
        int size;

        void add(int value) {
            if (size < bytes.length) {
                bytes[size] = value;
                size++;
            }
        }

        /** Where what begins at a place ends: all letters, all digits, or one byte alone. */
        int endFrom(int from) {
            int end = from;
            while (end < size && isLetter(bytes[end])) {
                end++;
            }
            if (end > from) {
                return end;
            }
            while (end < size && isDigit(bytes[end])) {
                end++;
            }
            return end > from ? end : from + 1;
        }

        int numberIn(int from, int end) {
            int number = 0;
            for (int i = from; i < end && i < size; i++) {
                number = number * 10 + bytes[i] - '0';
            }
            return number;
        }

        boolean stands(String word, int from, int end) {
            if (word.length() != end - from || end > size) {
                return false;
            }
            for (int k = 0; k < word.length(); k++) {
                if (bytes[from + k] != word.charAt(k)) {
                    return false;
                }
            }
            return true;
        }

        static boolean isBlank(int value) {
            return value == 32 || value == 10;
        }

        static boolean isLetter(int value) {
            return 'a' <= value && value <= 'z';
        }

        static boolean isDigit(int value) {
            return '0' <= value && value <= '9';
        }
    }

    /** THE TAPE cut into TOKENS; behind the last one stands END. */
    private static final class Tokens {
        static final int HITS = 0;
        static final int RUN = 1;
        static final int ALL = 2;
        static final int LEAKS = 3;
        static final int DAY = 4;
        static final int NEXT = 5;
        static final int NAMES = 6;
        static final int STOP = 6;
        static final int KEEP = 7;
        static final int SAY = 8;
        static final int OR = 9;
        static final int AND = 10;
        static final int NOT = 11;
        static final int NUMBER = 12;
        static final int END = -1;
        static final int BROKEN = -2;
        private static final int WORDS = 12;
        private static final int MOST_DIGITS = 4;

        final int[] kinds = new int[TAPE_BYTES + 1];
        final int[] places = new int[TAPE_BYTES + 1];
        final int[] numbers = new int[TAPE_BYTES + 1];
        int size;

        void cutTape(Tape tape) {
            size = 0;
            int end = 0;
            for (int from = 0; from < tape.size; from = Math.max(from + 1, end)) {
                end = tape.endFrom(from);
                if (!Tape.isBlank(tape.bytes[from])) {
                    int kind = kindOf(tape, from, end);
                    add(kind, from, kind == NUMBER ? tape.numberIn(from, end) : 0);
                }
            }
            add(END, tape.size, 0);
        }

        private void add(int kind, int place, int number) {
            if (size < kinds.length) {
                kinds[size] = kind;
                places[size] = place;
                numbers[size] = number;
                size++;
            }
        }

        private static int kindOf(Tape tape, int from, int end) {
            int first = tape.bytes[from];
            if (Tape.isLetter(first)) {
                return wordIn(tape, from, end);
            }
            if (Tape.isDigit(first)) {
                return end - from > MOST_DIGITS ? BROKEN : NUMBER;
            }
            switch (first) {
                case '(': case ')': case ';': case '+': case '-': case '*': case '<': case '=':
                    return first;
                default:
                    return BROKEN;
            }
        }

        private static int wordIn(Tape tape, int from, int end) {
            for (int word = 0; word < WORDS; word++) {
                if (tape.stands(wordOf(word), from, end)) {
                    return word;
                }
            }
            return BROKEN;
        }

        private static String wordOf(int word) {
            switch (word) {
                case HITS: return "hits";
                case RUN: return "run";
                case ALL: return "all";
                case LEAKS: return "leaks";
                case DAY: return "day";
                case NEXT: return "next";
                case STOP: return "stop";
                case KEEP: return "keep";
                case SAY: return "say";
                case OR: return "or";
                case AND: return "and";
                default: return "not";
            }
        }
    }

    /** Reads TOKENS and writes each E with its parts ahead of what joins them. */
    private static final class Reader {
        static final int MINUS = 13;
        private static final int MOST_OPEN = 5;
        private static final int ORS = 0;
        private static final int ANDS = 1;
        private static final int COMPARISONS = 2;
        private static final int SUMS = 3;
        private static final int TERMS = 4;

        private final Tokens tokens = new Tokens();
        private final int[] codes = new int[TAPE_BYTES];
        private final int[] ends = new int[Text.PARTS];
        private int length;
        private int at;
        private int token;
        private int fault;

        /** The place of the FAULT, or NONE. */
        int read(Tape tape) {
            tokens.cutTape(tape);
            length = 0;
            fault = NONE;
            at = 0;
            token = tokens.kinds[at];
            for (int part = 0; part < Text.PARTS; part++) {
                expect(Tokens.STOP + part);
                chain(ORS, 0);
                expect(';');
                ends[part] = length;
            }
            expect(Tokens.END);
            return fault;
        }

        Text textRead() {
            return new Text(Arrays.copyOf(codes, length), ends.clone());
        }

        private void expect(int asked) {
            if (token == asked) {
                step();
            } else {
                refuse();
            }
        }

        private void step() {
            if (at + 1 < tokens.size) {
                at++;
            }
            token = tokens.kinds[at];
        }

        // a broken TOKEN stands nowhere, so nothing is read on and all ends by itself
        private void refuse() {
            if (fault == NONE) {
                fault = tokens.places[at];
            }
            token = Tokens.BROKEN;
        }

        private void put(int code) {
            if (length < codes.length) {
                codes[length] = code;
                length++;
            }
        }

        /** All on one level, from ORS down to TERMS; open is how many of ( not - are. */
        private void chain(int level, int open) {
            part(level, open);
            for (int k = 0; k < TAPE_BYTES && levelOf(token) == level; k++) {
                int sign = token;
                step();
                part(level, open);
                put(~sign);
                if (level == COMPARISONS) {
                    break;
                }
            }
        }

        private void part(int level, int open) {
            if (level >= TERMS) {
                one(open);
            } else if (level == ANDS && token == Tokens.NOT) {
                denial(open);
            } else {
                chain(level + 1, open);
            }
        }

        private void denial(int open) {
            if (open >= MOST_OPEN) {
                refuse();
                return;
            }
            step();
            part(ANDS, open + 1);
            put(~Tokens.NOT);
        }

        private void one(int open) {
            boolean opens = token == '(' || token == '-';
            if (opens && open >= MOST_OPEN) {
                refuse();
            } else if (token == Tokens.NUMBER) {
                put(tokens.numbers[at]);
                step();
            } else if (among(token, Tokens.NAMES)) {
                put(~token);
                step();
            } else if (token == '-') {
                step();
                part(TERMS, open + 1);
                put(~MINUS);
            } else if (token == '(') {
                step();
                chain(ORS, open + 1);
                expect(')');
            } else {
                refuse();
            }
        }

        private static int levelOf(int token) {
            switch (token) {
                case Tokens.OR: return ORS;
                case Tokens.AND: return ANDS;
                case '<': case '=': return COMPARISONS;
                case '+': case '-': return SUMS;
                case '*': return TERMS;
                default: return NONE;
            }
        }
    }

    /** A TEXT as its Reader wrote it: a NUMBER as it is, all else as the complement of its TOKEN. */
    private static final class Text {
        static final int PARTS = 3;
        static final int STOP = 0;
        static final int KEEP = 1;
        static final int SAY = 2;

        private final int[] codes;
        private final int[] ends;
        private final int[] stack;

        Text(int[] codes, int[] ends) {
            this.codes = codes;
            this.ends = ends;
            stack = new int[codes.length];
        }

        int value(int part, int[] names) {
            int top = 0;
            for (int i = part == STOP ? 0 : ends[part - 1]; i < ends[part] && top < stack.length; i++) {
                int token = ~codes[i];
                if (token < 0) {
                    stack[top] = codes[i];
                    top++;
                } else if (token < names.length) {
                    stack[top] = names[token];
                    top++;
                } else if (token == Tokens.NOT && top > 0) {
                    stack[top - 1] = bit(stack[top - 1] == 0);
                } else if (token == Reader.MINUS && top > 0) {
                    stack[top - 1] = -stack[top - 1];
                } else if (top > 1) {
                    top--;
                    stack[top - 1] = joined(token, stack[top - 1], stack[top]);
                }
            }
            return top > 0 ? stack[0] : 0;
        }

        private static int joined(int token, int a, int b) {
            switch (token) {
                case Tokens.OR: return bit(a != 0 || b != 0);
                case Tokens.AND: return bit(a != 0 && b != 0);
                case '<': return bit(a < b);
                case '=': return bit(a == b);
                case '+': return a + b;
                case '-': return a - b;
                default: return a * b;
            }
        }

        private static int bit(boolean is) {
            return is ? 1 : 0;
        }
    }

    /** In lowest terms, above 0 below the line. */
    private static final class Fraction {
        long above = 0;
        long below = 1;

        void add(long moreAbove, long moreBelow) {
            if (moreBelow <= 0) {
                return;
            }
            long sum = above * moreBelow + moreAbove * below;
            long line = below * moreBelow;
            long divisor = greatestDivisor(Math.abs(sum), line);
            if (divisor > 0) {
                above = sum / divisor;
                below = line / divisor;
            }
        }

        private static long greatestDivisor(long a, long b) {
            long greater = b;
            long lesser = a;
            for (int step = 0; step < 1000 && lesser != 0; step++) {
                long rest = greater % lesser;
                greater = lesser;
                lesser = rest;
            }
            return greater;
        }
    }
}
