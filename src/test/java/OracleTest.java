import java.math.BigInteger;
import java.util.ArrayList;
import java.util.Arrays;
import java.util.HashMap;
import java.util.List;
import java.util.Map;
import java.util.Random;

/** Promises 8, 9, 10, 16, 19 and 21 against slow, plain ways to come to the same; the seeds are fixed. */
public final class OracleTest {
    private static final Random RANDOM = new Random(25);

    public static void main(String[] args) {
        for (int turn = 0; turn < 60; turn++) {
            exact();
            byLeft();
            series();
            plan();
        }
        for (int turn = 0; turn < 12; turn++) {
            exactOfManyCards();
        }
        for (int turn = 0; turn < 3000; turn++) {
            faults();
            values();
        }
        Check.end();
    }

    // ---- EXACT: all orders of a small pack, one by one

    private static void exact() {
        int[] counts = new int[5];
        int cards = 1 + RANDOM.nextInt(8);
        for (int k = 0; k < cards; k++) {
            counts[RANDOM.nextInt(5)]++;
        }
        FiveCards x = Check.with(digits(counts), 1);
        int[] guesses = new int[cards];
        int mostly = RANDOM.nextInt(5);
        for (int i = 0; i < cards; i++) {
            guesses[i] = RANDOM.nextInt(3) == 0 ? mostly : RANDOM.nextInt(5);
        }
        Check.guesses(x, 0, guesses);
        long[] orders = new long[27];
        walk(counts, guesses, 0, 0, orders);
        for (int hits = 0; hits <= 25; hits++) {
            Check.due("exact(0, " + hits + ", 0)", x.exact(0, hits, 0), orders[hits]);
            Check.due("exact(0, " + hits + ", 1)", x.exact(0, hits, 1), orders[26]);
        }
    }

    private static void walk(int[] left, int[] guesses, int place, int hits, long[] orders) {
        if (place == guesses.length) {
            orders[hits]++;
            orders[26]++;
            return;
        }
        for (int sign = 0; sign < 5; sign++) {
            if (left[sign] > 0) {
                left[sign]--;
                walk(left, guesses, place + 1, hits + (guesses[place] == sign ? 1 : 0), orders);
                left[sign]++;
            }
        }
    }

    private static int digits(int[] counts) {
        int digits = 0;
        for (int count : counts) {
            digits = digits * 10 + count;
        }
        return digits;
    }

    // ---- EXACT of packs of 20 cards and more: place by place, all orders with the same cards left at once

    private static void exactOfManyCards() {
        int[] counts = new int[5];
        int cards = 20 + RANDOM.nextInt(6);
        for (int k = 0; k < cards;) {
            int sign = RANDOM.nextInt(5);
            if (counts[sign] < 9) {
                counts[sign]++;
                k++;
            }
        }
        FiveCards x = Check.with(digits(counts), 1);
        int[] guesses = new int[cards];
        int signs = 1 + RANDOM.nextInt(5);
        for (int i = 0; i < cards; i++) {
            guesses[i] = RANDOM.nextInt(signs);
        }
        Check.guesses(x, 0, guesses);
        BigInteger[] orders = ordersFrom(0, guesses, counts, new HashMap<>());
        BigInteger all = BigInteger.ZERO;
        for (BigInteger some : orders) {
            all = all.add(some);
        }
        for (int hits = 0; hits <= 25; hits++) {
            Check.due("exact(0, " + hits + ", 0)", x.exact(0, hits, 0), orders[hits].longValueExact());
            Check.due("exact(0, " + hits + ", 1)", x.exact(0, hits, 1), all.longValueExact());
        }
    }

    /** By HITS from a place on, with these cards left. */
    private static BigInteger[] ordersFrom(int place, int[] guesses, int[] left, Map<Integer, BigInteger[]> known) {
        BigInteger[] orders = known.get(digits(left));
        if (orders != null) {
            return orders;
        }
        orders = new BigInteger[26];
        Arrays.fill(orders, BigInteger.ZERO);
        orders[0] = place == guesses.length ? BigInteger.ONE : BigInteger.ZERO;
        for (int sign = 0; sign < 5; sign++) {
            if (left[sign] > 0) {
                left[sign]--;
                BigInteger[] rest = ordersFrom(place + 1, guesses, left, known);
                left[sign]++;
                int hit = guesses[place] == sign ? 1 : 0;
                for (int hits = 0; hits + hit < 26; hits++) {
                    orders[hits + hit] = orders[hits + hit].add(rest[hits]);
                }
            }
        }
        known.put(digits(left), orders);
        return orders;
    }

    // ---- BY LEFT: what is left is counted anew at each place

    private static void byLeft() {
        FiveCards x = Check.with(RANDOM.nextInt(5) * 11111 + 1 + RANDOM.nextInt(5), 1);
        x.shuffle(0, RANDOM.nextInt(100000));
        int[] cards = Check.row(x, 0, 0);
        int hits = 0;
        for (int i = 0; i < cards.length; i++) {
            int best = 0;
            int most = -1;
            for (int sign = 0; sign < 5; sign++) {
                int left = 0;
                for (int k = i; k < cards.length; k++) {
                    left += cards[k] == sign ? 1 : 0;
                }
                if (left > most) {
                    most = left;
                    best = sign;
                }
            }
            hits += cards[i] == best ? 1 : 0;
        }
        Check.due("told(0, 6)", x.told(0, 6), hits);
    }

    // ---- SERIES: EXPECTED over 25! / 25 of all that may stand below the line

    private static final long LINE = 26771144400L;

    private static void series() {
        FiveCards x = new FiveCards();
        int[] packs = {1 + RANDOM.nextInt(9), 10101 + RANDOM.nextInt(3), 20101, 1304};
        for (int pack : packs) {
            x.pack(pack);
        }
        int[][] cards = new int[16][];
        int[][] guesses = new int[16][];
        int[] guessers = new int[16];
        for (int k = 0; k < 16; k++) {
            guessers[k] = RANDOM.nextInt(2);
            x.run(RANDOM.nextInt(4), guessers[k], RANDOM.nextInt(100));
            cards[k] = Check.row(x, k, 0);
            guesses[k] = new int[cards[k].length];
            for (int i = 0; i < guesses[k].length; i++) {
                guesses[k][i] = RANDOM.nextInt(5);
                x.slip(k, i, guesses[k][i]);
            }
        }
        x.force(Check.read(x, "stop 2<hits;keep next<hits;say 0;"));
        for (int kept = 0; kept < 2; kept++) {
            long many = 0;
            long hits = 0;
            long above = 0;
            boolean stopped = false;
            for (int k = 0; k < 16 && !stopped; k++) {
                int own = alike(cards[k], guesses[k], 0);
                if (guessers[k] != 1 || kept == 1 && own <= alike(cards[k], guesses[k], 1)) {
                    continue;
                }
                many++;
                hits += own;
                above += expectedAbove(cards[k], guesses[k]);
                stopped = kept == 0 && own > 2;
            }
            seriesIs(x, kept, many, hits, above);
        }
    }

    private static void seriesIs(FiveCards x, int kept, long many, long hits, long above) {
        long gain = hits * LINE - above;
        long divisor = divisor(above, LINE);
        Check.due("series(1, " + kept + ", 0)", x.series(1, kept, 0), many);
        Check.due("series(1, " + kept + ", 1)", x.series(1, kept, 1), hits);
        Check.due("series(1, " + kept + ", 2)", x.series(1, kept, 2), above / divisor);
        Check.due("series(1, " + kept + ", 3)", x.series(1, kept, 3), LINE / divisor);
        divisor = divisor(Math.abs(gain), LINE);
        Check.due("series(1, " + kept + ", 4)", x.series(1, kept, 4), gain / divisor);
        Check.due("series(1, " + kept + ", 5)", x.series(1, kept, 5), LINE / divisor);
    }

    /** HITS, or NEXT by 1. */
    private static int alike(int[] cards, int[] guesses, int by) {
        int sum = 0;
        for (int i = 0; i + by < cards.length; i++) {
            sum += guesses[i] == cards[i + by] ? 1 : 0;
        }
        return sum;
    }

    private static long expectedAbove(int[] cards, int[] guesses) {
        long above = 0;
        for (int card : cards) {
            for (int guess : guesses) {
                above += card == guess ? LINE / cards.length : 0;
            }
        }
        return above;
    }

    private static long divisor(long a, long b) {
        return a == 0 ? b : divisor(b % a, a);
    }

    // ---- PLANS: each leak is asked of each screen of a set

    private static void plan() {
        FiveCards x = new FiveCards();
        int[] kinds = new int[10];
        for (int k = 0; k < 10; k++) {
            kinds[k] = RANDOM.nextInt(6);
            x.leak(kinds[k], 0, 0);
        }
        int[] hours = new int[6];
        int[] shuts = new int[6];
        for (int k = 0; k < 6; k++) {
            hours[k] = 1 + RANDOM.nextInt(4);
            shuts[k] = RANDOM.nextInt(64);
            x.screen(hours[k], shuts[k]);
        }
        for (int leaks = 0; leaks < 1024; leaks += 1 + RANDOM.nextInt(20)) {
            int best = -1;
            int fewest = 1000;
            for (int set = 63; set >= 0; set--) {
                boolean all = true;
                for (int k = 0; k < 10; k++) {
                    boolean shut = (leaks >> k & 1) == 0;
                    for (int s = 0; s < 6; s++) {
                        shut |= (set >> s & 1) == 1 && (shuts[s] >> kinds[k] & 1) == 1;
                    }
                    all &= shut;
                }
                int sum = 0;
                for (int s = 0; s < 6; s++) {
                    sum += (set >> s & 1) * hours[s];
                }
                if (all && sum <= fewest) {
                    best = set;
                    fewest = sum;
                }
            }
            Check.due("plan(" + leaks + ", 0)", x.plan(leaks, 0), best);
            Check.due("plan(" + leaks + ", 1)", x.plan(leaks, 1), best == -1 ? -1 : fewest);
        }
    }

    // ---- FAULTS: all ways in which the grammar may go on are followed at once

    private static final String[] TOKENS = {
        "stop", "keep", "say", "or", "and", "not", "hits", "run", "7", "0042", "(", ")", ";", "+", "-", "*", "<", "=",
        "hit", "12345", "?",
    };
    // what a token is in the grammar below; x stands nowhere
    private static final String SIGNS = "123oanhh77();+-*<=xxx";
    // U: one more is open; D: one less
    private static final String[] RULES = {
        "T1E;2E;3E;", "EAe", "eoAe", "e", "ANb", "baNb", "b", "NUnND", "NSc", "c<S", "c=S", "c",
        "SMs", "s+Ms", "s-Ms", "s", "MOm", "m*Om", "m", "Oh", "O7", "OU-OD", "OU(E)D",
    };

    private static void faults() {
        StringBuilder text = new StringBuilder();
        List<String> ways = new ArrayList<>();
        ways.add("0T");
        int fault = -1;
        int size = 1 + RANDOM.nextInt(40);
        for (int k = 0; k < size && fault < 0; k++) {
            int token = likelyToken(ways);
            gap(text, TOKENS[token]);
            List<String> then = after(ways, SIGNS.charAt(token));
            if (then.isEmpty()) {
                fault = text.length();
            }
            text.append(TOKENS[token]);
            ways = then;
        }
        if (RANDOM.nextInt(3) == 0) {
            text.append(" \n");
        }
        if (fault >= 0) {
            gap(text, "stop");
            text.append("stop?");
        }
        if (fault < 0 && !isWhole(ways)) {
            fault = text.length();
        }
        if (text.length() <= 160) {
            FiveCards x = new FiveCards();
            Check.due("text() of " + text, Check.read(x, text.toString()), fault < 0 ? 1 : -100 - fault);
        }
    }

    private static int likelyToken(List<String> ways) {
        int token = RANDOM.nextInt(TOKENS.length);
        for (int turn = 0; turn < 200 && RANDOM.nextInt(60) != 0; turn++) {
            if (!after(ways, SIGNS.charAt(token)).isEmpty()) {
                return token;
            }
            token = RANDOM.nextInt(TOKENS.length);
        }
        return token;
    }

    private static void gap(StringBuilder text, String next) {
        char last = text.length() == 0 ? ' ' : text.charAt(text.length() - 1);
        boolean joins = isLetter(last) && isLetter(next.charAt(0)) || isDigit(last) && isDigit(next.charAt(0));
        text.append(joins || RANDOM.nextInt(4) == 0 ? " " : "");
    }

    private static boolean isLetter(char c) {
        return c >= 'a' && c <= 'z';
    }

    private static boolean isDigit(char c) {
        return c >= '0' && c <= '9';
    }

    private static List<String> after(List<String> ways, char token) {
        List<String> then = new ArrayList<>();
        for (String way : ways) {
            follow(way, token, then);
        }
        return then;
    }

    /** A way is how many are open, and what is still to come. */
    private static void follow(String way, char token, List<String> then) {
        if (way.length() == 1) {
            return;
        }
        char open = way.charAt(0);
        char first = way.charAt(1);
        String rest = way.substring(2);
        if (first == token) {
            then.add(open + rest);
        } else if (first == 'U' && open < '5') {
            follow((char) (open + 1) + rest, token, then);
        } else if (first == 'D') {
            follow((char) (open - 1) + rest, token, then);
        } else {
            for (String rule : RULES) {
                if (rule.charAt(0) == first) {
                    follow(open + rule.substring(1) + rest, token, then);
                }
            }
        }
    }

    private static boolean isWhole(List<String> ways) {
        for (String way : ways) {
            boolean whole = true;
            for (int k = 1; k < way.length(); k++) {
                whole &= "ebcsmD".indexOf(way.charAt(k)) >= 0;
            }
            if (whole) {
                return true;
            }
        }
        return false;
    }

    // ---- VALUES: each E is made together with what it comes to

    private static int value;

    private static void values() {
        String e = either(2);
        int due = value;
        if (e.length() <= 130) {
            FiveCards x = Check.with(10000, 1);
            Check.due("say " + e, Check.said(x, 0, e), due);
        }
    }

    private static String either(int depth) {
        String text = both(depth);
        for (int k = RANDOM.nextInt(4) - 2; k > 0; k--) {
            int left = value;
            text += " or " + both(depth);
            value = left != 0 || value != 0 ? 1 : 0;
        }
        return text;
    }

    private static String both(int depth) {
        String text = denial(depth);
        for (int k = RANDOM.nextInt(4) - 2; k > 0; k--) {
            int left = value;
            text += " and " + denial(depth);
            value = left != 0 && value != 0 ? 1 : 0;
        }
        return text;
    }

    private static String denial(int depth) {
        if (depth > 0 && RANDOM.nextInt(5) == 0) {
            String text = "not " + denial(depth - 1);
            value = value == 0 ? 1 : 0;
            return text;
        }
        String text = sum(depth);
        int way = RANDOM.nextInt(5);
        if (way < 2) {
            int left = value;
            text += (way == 0 ? "<" : "=") + sum(depth);
            value = (way == 0 ? left < value : left == value) ? 1 : 0;
        }
        return text;
    }

    private static String sum(int depth) {
        String text = term(depth);
        for (int k = RANDOM.nextInt(4) - 1; k > 0; k--) {
            int left = value;
            boolean plus = RANDOM.nextBoolean();
            text += (plus ? " + " : "-") + term(depth);
            value = plus ? left + value : left - value;
        }
        return text;
    }

    private static String term(int depth) {
        String text = one(depth);
        for (int k = RANDOM.nextInt(4) - 1; k > 0; k--) {
            int left = value;
            text += "*" + one(depth);
            value = left * value;
        }
        return text;
    }

    private static String one(int depth) {
        int way = depth == 0 ? 0 : RANDOM.nextInt(4);
        if (way == 1) {
            String text = "-" + one(depth - 1);
            value = -value;
            return text;
        }
        if (way == 2) {
            return "(" + either(depth - 1) + ")";
        }
        value = RANDOM.nextInt(3) == 0 ? RANDOM.nextInt(10000) : RANDOM.nextInt(3);
        return Integer.toString(value);
    }
}
