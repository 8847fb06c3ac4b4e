import java.util.ArrayDeque;
import java.util.ArrayList;
import java.util.Deque;
import java.util.HashMap;
import java.util.HashSet;
import java.util.List;
import java.util.Map;
import java.util.Random;
import java.util.Set;

/**
 * Runs of calls by a fixed seed, each answer compared with that of a model which follows the
 * document's words as literally as it can, over texts of digits and with other ways of search.
 */
public final class ReferenceTest {
    private static final int RUNS = 400;
    private static final int CALLS = 512;
    private static final int NONE = -9;
    private static final long LOST = Long.MIN_VALUE;
    private static final int WRONG_SHOWN = 20;

    private static int wrong = 0;

    public static void main(String[] args) {
        long answers = 0;
        for (int seed = 0; seed < RUNS && wrong < WRONG_SHOWN; seed++) {
            new Run(seed).go();
            answers += CALLS;
        }
        System.out.println(answers + " answers compared, " + wrong + " not as due");
        if (wrong != 0) {
            System.exit(1);
        }
    }

    /** One object with its model, called at random. */
    private static final class Run {
        private final int seed;
        private final Random random;
        private final FirstSigns x = new FirstSigns();
        private final Model model = new Model();
        private final int style;

        Run(int seed) {
            this.seed = seed;
            random = new Random(seed);
            style = seed % 4;
        }

        void go() {
            for (int k = 0; k < CALLS && wrong < WRONG_SHOWN; k++) {
                call(random.nextInt(100), k);
            }
        }

        private void due(String call, long got, long want) {
            if (got != want) {
                wrong++;
                System.out.println(
                        "run " + seed + ": " + call + " answered " + got + ", due is " + want);
            }
        }

        private void call(int dice, int k) {
            if (k < 24 || dice < 16) {
                change();
            } else if (dice < 20) {
                int n = random.nextInt(10) == 0 ? random.nextInt(24) - 2 : random.nextInt(3);
                due("undo(" + n + ")", x.undo(n), model.undo(n));
            } else if (dice < 60) {
                askOfWords(random.nextInt(7));
            } else {
                askOfClaims(random.nextInt(9));
            }
        }

        private void change() {
            int dice = random.nextInt(20);
            if (dice == 0) {
                due("settle()", x.settle(), model.settle());
            } else if (dice < 12) {
                int s = sign();
                int letter = letter();
                int row = ruleRow(s, letter);
                due("rule(" + s + ", " + letter + ", " + row + ")",
                        x.rule(s, letter, row), model.rule(s, letter, row));
            } else {
                int s = sign();
                int row = claimRow(s);
                due("claim(" + s + ", " + row + ")", x.claim(s, row), model.claim(s, row));
            }
        }

        private void askOfWords(int which) {
            int row = row();
            int other = random.nextInt(4) == 0 ? row : row();
            int small = small(4);
            switch (which) {
                case 0 -> {
                    int s = sign();
                    int letter = letter();
                    due("ofRule(" + s + ", " + letter + ")",
                            x.ofRule(s, letter), model.ofRule(s, letter));
                }
                case 1 -> {
                    long letters = letters(row);
                    due("read(" + row + ", " + letters + ", " + small + ")",
                            x.read(row, letters, small), model.read(row, letters, small));
                }
                case 2 -> due("norm(" + row + ")", x.norm(row), model.norm(row));
                case 3 -> due("least(" + row + ")", x.least(row), model.least(row));
                case 4 -> {
                    int n = random.nextInt(15) - 1;
                    due("words(" + row + ", " + n + ")", x.words(row, n), model.words(row, n));
                }
                case 5 -> {
                    int how = small(2);
                    due("parts(" + row + ", " + other + ", " + how + ")",
                            x.parts(row, other, how), model.parts(row, other, how));
                }
                default -> due("firsts(" + row + ")", x.firsts(row), model.firsts(row));
            }
        }

        private void askOfClaims(int which) {
            int row = row();
            int other = random.nextBoolean() ? row() : likeByClaims(row);
            int s = sign();
            switch (which) {
                case 0 -> due("ofClaim(" + s + ")", x.ofClaim(s), model.ofClaim(s));
                case 1, 2 -> {
                    int k = random.nextInt(which == 1 ? 12 : 300) - 2;
                    due("reduced(" + row + ", " + k + ")",
                            x.reduced(row, k), model.reduced(row, k));
                }
                case 3 -> due("alike(" + row + ", " + other + ")",
                        x.alike(row, other), model.alike(row, other));
                case 4, 5 -> {
                    int end = small(2);
                    due("common(" + row + ", " + other + ", " + end + ")",
                            x.common(row, other, end), model.common(row, other, end));
                }
                case 6 -> {
                    int what = small(2);
                    due("broken(" + what + ")", x.broken(what), model.broken(what));
                }
                case 7 -> {
                    int k = random.nextInt(random.nextBoolean() ? 8 : 170) - 2;
                    due("might(" + s + ", " + k + ")", x.might(s, k), model.might(s, k));
                }
                default -> {
                    int what = small(5);
                    due("many(" + what + ")", x.many(what), model.many(what));
                }
            }
        }

        private int small(int bound) {
            return random.nextInt(15) == 0 ? random.nextInt(bound + 4) - 2 : random.nextInt(bound);
        }

        private int sign() {
            return small(6);
        }

        private int letter() {
            return small(3);
        }

        /** Short ROWS more often, and now and then a number that is none. */
        private int row() {
            if (random.nextInt(25) == 0) {
                return strange();
            }
            return digits(random.nextInt(4) == 0 ? random.nextInt(10) : random.nextInt(4), 6);
        }

        private int strange() {
            int[] some = {
                7, 10, 101, 17, 71, -1, -9, -11, 1111111111, 1666666666, 700000000, 1234567,
                Integer.MAX_VALUE, Integer.MIN_VALUE, 166666660
            };
            return some[random.nextInt(some.length)];
        }

        private int digits(int length, int kinds) {
            int row = 0;
            for (int k = 0; k < length; k++) {
                row = row * 10 + 1 + random.nextInt(Math.max(kinds, 1));
            }
            return row;
        }

        private long letters(int row) {
            if (random.nextInt(12) == 0) {
                return random.nextBoolean() ? strange() : 1111111111111L;
            }
            long word = model.least(row);
            if (word > 0 && random.nextInt(3) == 0) {
                return word;
            }
            long letters = 0;
            int length = random.nextInt(13);
            for (int k = 0; k < length; k++) {
                letters = letters * 10 + 1 + random.nextInt(3);
            }
            return letters;
        }

        /** By the style mostly RULES that end, that fit a CLAIM, or any. */
        private int ruleRow(int s, int letter) {
            if (random.nextInt(20) == 0) {
                return random.nextBoolean() ? NONE : random.nextInt(3000) - 20;
            }
            if (style == 1 && s > 0 && s < 6) {
                return digits(random.nextInt(4), s);
            }
            if (style >= 2 && random.nextInt(4) != 0) {
                int fitting = model.ruleByClaim(s, letter);
                if (fitting != Integer.MIN_VALUE) {
                    return fitting;
                }
            }
            return digits(random.nextInt(style == 3 ? 2 : 4), 6);
        }

        private int claimRow(int s) {
            if (random.nextInt(12) == 0) {
                return random.nextBoolean() ? NONE : random.nextInt(3000) - 20;
            }
            if (random.nextInt(3) == 0) {
                int k = random.nextInt(5);
                int fitting = s >= 0 && s < 6 ? (int) model.might(s, k) : 0;
                if (fitting > 0) {
                    return fitting;
                }
            }
            return digits(1 + random.nextInt(3), Math.min(s, 6));
        }

        /** The ROW with one SIGN replaced by its CLAIM, or changed, if it still is a ROW then. */
        private int likeByClaims(int row) {
            if (row <= 0) {
                return row;
            }
            String text = Integer.toString(row);
            int at = random.nextInt(text.length());
            int s = text.charAt(at) - '1';
            int claim = (int) model.ofClaim(s);
            String inner = claim > 0 ? Integer.toString(claim) : text.substring(at, at + 1);
            String whole = text.substring(0, at) + inner + text.substring(at + 1);
            return whole.length() > 9 ? row : Integer.parseInt(whole);
        }
    }

    /** The document's words over texts of digits: "" is the empty ROW, null is none. */
    private static final class Model {
        private String[][] rules = new String[6][3];
        private String[] claims = new String[6];
        private final Deque<Object[]> past = new ArrayDeque<>();

        // ---- numbers and texts

        private static boolean sign(int s) {
            return s >= 0 && s <= 5;
        }

        private static boolean letter(int letter) {
            return letter >= 0 && letter <= 2;
        }

        /** Null if the number is no row. */
        private static String text(long number, int most, char highest) {
            String text = number == 0 ? "" : Long.toString(number);
            boolean fits = text.length() <= most;
            for (char c : text.toCharArray()) {
                fits &= c >= '1' && c <= highest;
            }
            return fits ? text : null;
        }

        private static String row(int number) {
            return text(number, 9, '6');
        }

        private static int number(String row) {
            if (row == null) {
                return NONE;
            }
            return row.isEmpty() ? 0 : Integer.parseInt(row);
        }

        private static long longNumber(String row) {
            return row.isEmpty() ? 0 : Long.parseLong(row);
        }

        // ---- changes

        private void keep() {
            String[][] copy = new String[6][];
            for (int s = 0; s < 6; s++) {
                copy[s] = rules[s].clone();
            }
            past.push(new Object[] {copy, claims.clone()});
            if (past.size() > 20) {
                past.removeLast();
            }
        }

        long undo(int k) {
            if (k < 0 || k > past.size()) {
                return -2;
            }
            for (int n = 0; n < k; n++) {
                Object[] state = past.pop();
                rules = (String[][]) state[0];
                claims = (String[]) state[1];
            }
            return past.size();
        }

        long rule(int s, int letter, int row) {
            if (!sign(s) || !letter(letter)) {
                return -1;
            }
            String text = text(row, 3, '6');
            if (row != NONE && text == null) {
                return -2;
            }
            keep();
            int was = number(rules[s][letter]);
            rules[s][letter] = row == NONE ? null : text;
            return was;
        }

        long ofRule(int s, int letter) {
            return sign(s) && letter(letter) ? number(rules[s][letter]) : -1;
        }

        long claim(int s, int row) {
            if (!sign(s)) {
                return -1;
            }
            String text = text(row, 3, (char) ('0' + s));
            if (row != NONE && (text == null || text.isEmpty())) {
                return -2;
            }
            keep();
            int was = number(claims[s]);
            claims[s] = row == NONE ? null : text;
            return was;
        }

        long ofClaim(int s) {
            return sign(s) ? number(claims[s]) : -1;
        }

        // ---- reading

        private String step(String row, char letter) {
            if (row.isEmpty()) {
                return null;
            }
            String rule = rules[row.charAt(0) - '1'][letter - '1'];
            return rule == null ? null : rule + row.substring(1);
        }

        long read(int row, long letters, int what) {
            String left = row(row);
            String ahead = text(letters, 12, '3');
            if (left == null || ahead == null || what < 0 || what > 3) {
                return -2;
            }
            int count = 0;
            while (count < ahead.length() && step(left, ahead.charAt(count)) != null) {
                left = step(left, ahead.charAt(count));
                count++;
            }
            return switch (what) {
                case 0 -> count;
                case 1 -> left.length();
                case 2 -> left.isEmpty() ? NONE : left.charAt(0) - '1';
                default -> left.isEmpty() && count == ahead.length() ? 1 : 0;
            };
        }

        /** The SIGN with the least NORM of all not yet known is fixed, again and again. */
        private Map<Character, Integer> norms() {
            Map<Character, Integer> known = new HashMap<>();
            while (true) {
                char best = 0;
                int least = Integer.MAX_VALUE;
                for (char c = '1'; c <= '6'; c++) {
                    for (char letter = '1'; letter <= '3' && !known.containsKey(c); letter++) {
                        String rule = rules[c - '1'][letter - '1'];
                        int sum = rule == null ? NONE : sum(known, rule);
                        if (sum != NONE && sum + 1 < least) {
                            best = c;
                            least = sum + 1;
                        }
                    }
                }
                if (best == 0) {
                    return known;
                }
                known.put(best, least);
            }
        }

        private static int sum(Map<Character, Integer> known, String row) {
            int sum = 0;
            for (char c : row.toCharArray()) {
                if (!known.containsKey(c)) {
                    return NONE;
                }
                sum += known.get(c);
            }
            return sum;
        }

        long norm(int row) {
            String text = row(row);
            return text == null ? -2 : sum(norms(), text);
        }

        long least(int row) {
            String text = row(row);
            if (text == null) {
                return LOST;
            }
            for (int n = 0; n <= 12; n++) {
                String word = firstWord(text, n, new HashSet<>());
                if (word != null) {
                    return longNumber(word);
                }
            }
            return NONE;
        }

        private String firstWord(String row, int n, Set<String> hopeless) {
            if (n == 0) {
                return row.isEmpty() ? "" : null;
            }
            if (row.length() > n || !hopeless.add(row + ":" + n)) {
                return null;
            }
            for (char letter = '1'; letter <= '3'; letter++) {
                String left = step(row, letter);
                String word = left == null ? null : firstWord(left, n - 1, hopeless);
                if (word != null) {
                    return letter + word;
                }
            }
            return null;
        }

        long words(int row, int n) {
            String text = row(row);
            return text == null || n < 0 || n > 12 ? -2 : wordsOf(text, n, new HashMap<>());
        }

        private long wordsOf(String row, int n, Map<String, Long> known) {
            if (n == 0 || row.length() > n) {
                return row.isEmpty() ? 1 : 0;
            }
            Long before = known.get(row + ":" + n);
            if (before != null) {
                return before;
            }
            long count = 0;
            for (char letter = '1'; letter <= '3'; letter++) {
                String left = step(row, letter);
                count += left == null ? 0 : wordsOf(left, n - 1, known);
            }
            known.put(row + ":" + n, count);
            return count;
        }

        long parts(int row, int other, int how) {
            String a = row(row);
            String b = row(other);
            if (a == null || b == null || how < 0 || how > 1) {
                return LOST;
            }
            for (int n = 0; n <= 6; n++) {
                String found = parting(a, b, how, n);
                if (found != null) {
                    return longNumber(found);
                }
            }
            return NONE;
        }

        /** A null ROW is one that could not READ what is behind it. */
        private String parting(String a, String b, int how, int n) {
            if (a == null && b == null) {
                return null;
            }
            if (n == 0) {
                boolean one = a != null && (how == 1 || a.isEmpty());
                boolean two = b != null && (how == 1 || b.isEmpty());
                return one != two ? "" : null;
            }
            for (char letter = '1'; letter <= '3'; letter++) {
                String found = parting(a == null ? null : step(a, letter),
                        b == null ? null : step(b, letter), how, n - 1);
                if (found != null) {
                    return letter + found;
                }
            }
            return null;
        }

        /** All that is left of the ROW ever, each cut behind its first SIGN without a WORD. */
        long firsts(int row) {
            String text = row(row);
            if (text == null) {
                return -2;
            }
            Map<Character, Integer> known = norms();
            Set<String> seen = new HashSet<>();
            Deque<String> open = new ArrayDeque<>();
            open.add(text);
            int set = 0;
            while (!open.isEmpty()) {
                String left = open.remove();
                // What is twice the same behind another SIGN adds none, so it is told but once.
                String key = shorten(cut(left, known));
                if (key.isEmpty() || !seen.add(key)) {
                    continue;
                }
                set |= 1 << key.charAt(0) - '1';
                for (char letter = '1'; letter <= '3'; letter++) {
                    String next = step(key, letter);
                    if (next != null) {
                        open.add(next);
                    }
                }
            }
            return set;
        }

        private static String cut(String row, Map<Character, Integer> known) {
            for (int k = 0; k < row.length(); k++) {
                if (!known.containsKey(row.charAt(k))) {
                    return row.substring(0, k + 1);
                }
            }
            return row;
        }

        private static String shorten(String row) {
            StringBuilder made = new StringBuilder();
            for (char c : row.toCharArray()) {
                if (made.indexOf(String.valueOf(c)) < 0) {
                    made.append(c);
                }
            }
            return made.toString();
        }

        // ---- claims

        private String reduce(String row) {
            String left = row;
            boolean changed = true;
            while (changed) {
                changed = false;
                StringBuilder next = new StringBuilder();
                for (char c : left.toCharArray()) {
                    String claim = claims[c - '1'];
                    next.append(claim == null ? String.valueOf(c) : claim);
                    changed |= claim != null;
                }
                left = next.toString();
            }
            return left;
        }

        long reduced(int row, int k) {
            String text = row(row);
            if (text == null || k < -1) {
                return -2;
            }
            String all = reduce(text);
            if (k == -1) {
                return all.length();
            }
            return k < all.length() ? all.charAt(k) - '1' : NONE;
        }

        long alike(int row, int other) {
            String a = row(row);
            String b = row(other);
            if (a == null || b == null) {
                return -2;
            }
            return reduce(a).equals(reduce(b)) ? 1 : 0;
        }

        long common(int row, int other, int end) {
            if (row(row) == null || row(other) == null || end < 0 || end > 1) {
                return -2;
            }
            StringBuilder a = new StringBuilder(reduce(row(row)));
            StringBuilder b = new StringBuilder(reduce(row(other)));
            if (end == 1) {
                a.reverse();
                b.reverse();
            }
            int count = 0;
            while (b.toString().startsWith(a.substring(0, Math.min(count + 1, a.length())))
                    && count < a.length()) {
                count++;
            }
            return count;
        }

        private boolean brokenBy(int s, char letter) {
            String one = step(String.valueOf((char) ('1' + s)), letter);
            String two = step(claims[s], letter);
            if (one == null || two == null) {
                return (one == null) != (two == null);
            }
            return !reduce(one).equals(reduce(two));
        }

        private List<Integer> brokenSigns() {
            List<Integer> found = new ArrayList<>();
            for (int s = 0; s < 6; s++) {
                if (claims[s] != null && breaks(s) != NONE) {
                    found.add(s);
                }
            }
            return found;
        }

        private int breaks(int s) {
            for (char letter = '1'; letter <= '3'; letter++) {
                if (brokenBy(s, letter)) {
                    return letter - '1';
                }
            }
            return NONE;
        }

        long broken(int what) {
            if (what < 0 || what > 1) {
                return -2;
            }
            List<Integer> found = brokenSigns();
            if (found.isEmpty()) {
                return NONE;
            }
            return what == 0 ? found.get(0) : breaks(found.get(0));
        }

        long settle() {
            keep();
            int went = 0;
            List<Integer> found = brokenSigns();
            while (!found.isEmpty()) {
                for (int s : found) {
                    claims[s] = null;
                }
                went += found.size();
                found = brokenSigns();
            }
            return went;
        }

        long might(int s, int k) {
            if (!sign(s)) {
                return -1;
            }
            if (k < -1) {
                return -2;
            }
            List<Integer> found = new ArrayList<>();
            String was = claims[s];
            for (int number = 1; number <= 666; number++) {
                String text = text(number, 3, (char) ('0' + s));
                claims[s] = text;
                if (text != null && breaks(s) == NONE) {
                    found.add(number);
                }
            }
            claims[s] = was;
            if (k == -1) {
                return found.size();
            }
            return k < found.size() ? found.get(k) : NONE;
        }

        long many(int what) {
            int count = 0;
            switch (what) {
                case 0 -> {
                    for (String[] ofSign : rules) {
                        for (String rule : ofSign) {
                            count += rule == null ? 0 : 1;
                        }
                    }
                }
                case 1 -> {
                    for (String claim : claims) {
                        count += claim == null ? 0 : 1;
                    }
                }
                case 2 -> count = norms().size();
                case 3 -> count = past.size();
                case 4 -> count = brokenSigns().size();
                default -> count = -2;
            }
            return count;
        }

        /** What the RULE of a SIGN would have to be to fit its CLAIM, if it can be one. */
        int ruleByClaim(int s, int letter) {
            if (!sign(s) || !letter(letter) || claims[s] == null) {
                return Integer.MIN_VALUE;
            }
            String left = step(claims[s], (char) ('1' + letter));
            return left != null && left.length() > 3 ? Integer.MIN_VALUE : number(left);
        }
    }
}
