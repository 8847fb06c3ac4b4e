import java.util.Arrays;

/**
 * Rows of signs that read letters, and claims that a sign is like a row of lesser ones.
 *
 * <p>A ROW is told as a number, one digit for each SIGN, the first SIGN the highest digit. Every
 * answer is worked out from the RULES and CLAIMS as they are when it is asked, so that nothing has
 * to be kept in step with them; the room it needs is made once, with the object.
 */
public final class FirstSigns {
    public static final int UNKNOWN = -1, OUTSIDE = -2, NONE = -9;
    public static final long LOST = Long.MIN_VALUE;

    private static final int SIGNS = 6;
    private static final int LETTERS = 3;
    private static final int LONGEST_ROW = 9;
    /** The most SIGNS of a RULE's ROW, and of a CLAIM's. */
    private static final int LONGEST_PLACE = 3;
    private static final int LONGEST_WORD = 12;
    /** How many rows of at most 6 LETTERS there are: 1 + 3 + 9 + 27 + 81 + 243 + 729. */
    private static final int ROWS_OF_SIX_LETTERS = 1093;
    private static final int CHANGES_KEPT = 20;

    private final Table table = new Table();
    private final Past past = new Past();
    private final Reader reader = new Reader();
    private final Norms norms = new Norms();
    private final Counts counts = new Counts();
    private final Forms forms = new Forms();
    private final Row one = new Row(LONGEST_ROW * Forms.LONGEST);
    private final Row two = new Row(LONGEST_ROW * Forms.LONGEST);

    public FirstSigns() {
    }

    // ---- 1 rules, words

    public int rule(int s, int letter, int row) {
        if (!isSign(s) || !isLetter(letter)) {
            return UNKNOWN;
        }
        if (row != NONE && !isRow(row, SIGNS, LONGEST_PLACE)) {
            return OUTSIDE;
        }
        past.keep(table);
        int was = table.ruleOf(s, letter);
        table.setRule(s, letter, row);
        return was;
    }

    public int ofRule(int s, int letter) {
        return isSign(s) && isLetter(letter) ? table.ruleOf(s, letter) : UNKNOWN;
    }

    public int read(int row, long letters, int what) {
        if (!isRowOfSigns(row) || !isRow(letters, LETTERS, LONGEST_WORD) || what < 0 || what > 3) {
            return OUTSIDE;
        }
        int count = reader.countRead(table, row, letters);
        switch (what) {
            case 0:
                return count;
            case 1:
                return reader.left.size();
            case 2:
                return reader.left.fromFirst(0);
            default:
                return reader.readsToEnd() && reader.left.size() == 0 ? 1 : 0;
        }
    }

    public int norm(int row) {
        if (!isRowOfSigns(row)) {
            return OUTSIDE;
        }
        norms.find(table);
        return norms.ofRow(row);
    }

    public long least(int row) {
        if (!isRowOfSigns(row)) {
            return LOST;
        }
        norms.find(table);
        int norm = norms.ofRow(row);
        return norm == NONE || norm > LONGEST_WORD ? NONE : leastWord(row, norm);
    }

    public int words(int row, int n) {
        if (!isRowOfSigns(row) || n < 0 || n > LONGEST_WORD) {
            return OUTSIDE;
        }
        counts.find(table, n);
        return counts.ofRow(row, n);
    }

    public long parts(int row, int other, int how) {
        if (!isRowOfSigns(row) || !isRowOfSigns(other) || how < 0 || how > 1) {
            return LOST;
        }
        for (int place = 0; place < ROWS_OF_SIX_LETTERS; place++) {
            int letters = rowInOrder(place, LETTERS);
            if (goesThrough(row, letters, how) != goesThrough(other, letters, how)) {
                return letters;
            }
        }
        return NONE;
    }

    public int firsts(int row) {
        if (!isRowOfSigns(row)) {
            return OUTSIDE;
        }
        norms.find(table);
        int set = norms.firstsWithin(row);
        // A round that changes the set adds a SIGN to it, so SIGNS rounds are enough.
        for (int round = 0; round < SIGNS; round++) {
            set |= firstsOfRules(set);
        }
        return set;
    }

    // ---- 2 claims

    public int claim(int s, int row) {
        if (!isSign(s)) {
            return UNKNOWN;
        }
        // SIGNS less than s have the digits 1 .. s.
        if (row != NONE && (row == 0 || !isRow(row, s, LONGEST_PLACE))) {
            return OUTSIDE;
        }
        past.keep(table);
        int was = table.claimOf(s);
        table.setClaim(s, row);
        return was;
    }

    public int ofClaim(int s) {
        return isSign(s) ? table.claimOf(s) : UNKNOWN;
    }

    public int reduced(int row, int k) {
        if (!isRowOfSigns(row) || k < -1) {
            return OUTSIDE;
        }
        forms.find(table);
        one.clear();
        forms.putAhead(one, row);
        return k == -1 ? one.size() : one.fromFirst(k);
    }

    public int alike(int row, int other) {
        if (!isRowOfSigns(row) || !isRowOfSigns(other)) {
            return OUTSIDE;
        }
        reduceBoth(row, other);
        return one.isSame(two) ? 1 : 0;
    }

    public int common(int row, int other, int end) {
        if (!isRowOfSigns(row) || !isRowOfSigns(other) || end < 0 || end > 1) {
            return OUTSIDE;
        }
        reduceBoth(row, other);
        return end == 0 ? one.sameFromFirst(two) : one.sameFromLast(two);
    }

    public int broken(int what) {
        if (what < 0 || what > 1) {
            return OUTSIDE;
        }
        forms.find(table);
        for (int sign = 0; sign < SIGNS; sign++) {
            int letter = breakingLetter(sign);
            if (letter != NONE) {
                return what == 0 ? sign : letter;
            }
        }
        return NONE;
    }

    public int settle() {
        past.keep(table);
        int went = 0;
        int set = brokenClaims();
        // Each round takes a CLAIM away, so there are never more rounds than SIGNS.
        for (int round = 0; round < SIGNS && set != 0; round++) {
            removeClaims(set);
            went += Integer.bitCount(set);
            set = brokenClaims();
        }
        return went;
    }

    public int might(int s, int k) {
        if (!isSign(s)) {
            return UNKNOWN;
        }
        if (k < -1) {
            return OUTSIDE;
        }
        int was = table.claimOf(s);
        int answer = mightFrom(s, k);
        table.setClaim(s, was);
        return answer;
    }

    // ---- 3 changes

    public int undo(int k) {
        if (k < 0 || k > past.kept()) {
            return OUTSIDE;
        }
        past.bringBack(table, k);
        return past.kept();
    }

    public int many(int what) {
        switch (what) {
            case 0:
                return table.countRules();
            case 1:
                return table.countClaims();
            case 2:
                norms.find(table);
                return norms.countFound();
            case 3:
                return past.kept();
            case 4:
                return Integer.bitCount(brokenClaims());
            default:
                return OUTSIDE;
        }
    }

    // ---- what the calls above share

    private static boolean isSign(int s) {
        return s >= 0 && s < SIGNS;
    }

    private static boolean isLetter(int letter) {
        return letter >= 0 && letter < LETTERS;
    }

    private static boolean isRowOfSigns(int row) {
        return isRow(row, SIGNS, LONGEST_ROW);
    }

    /** Whether a number tells a row: digits 1 .. kinds, as many as most at the most. */
    private static boolean isRow(long number, int kinds, int most) {
        long left = number;
        for (int k = 0; k < most && left > 0; k++) {
            long digit = left % 10;
            if (digit < 1 || digit > kinds) {
                return false;
            }
            left /= 10;
        }
        return left == 0;
    }

    /**
     * The row at a place (from 0, the empty one) among all rows of so many kinds, shorter ones
     * first, then by number: counting with the digits 1 .. kinds and no zero gives this order.
     */
    private static int rowInOrder(int place, int kinds) {
        int row = 0;
        int unit = 1;
        int left = place;
        for (int k = 0; k < LONGEST_ROW && left > 0 && kinds > 0; k++) {
            row += ((left - 1) % kinds + 1) * unit;
            unit *= 10;
            left = (left - 1) / kinds;
        }
        return row;
    }

    private long leastWord(int row, int norm) {
        reader.start(row);
        long word = 0;
        for (int k = 0; k < norm; k++) {
            int letter = norms.leastLetter(table, reader.left.fromFirst(0));
            reader.step(table, letter);
            word = word * 10 + letter + 1;
        }
        return word;
    }

    private boolean goesThrough(int row, int letters, int how) {
        reader.countRead(table, row, letters);
        return reader.readsToEnd() && (how == 1 || reader.left.size() == 0);
    }

    private int firstsOfRules(int set) {
        int found = 0;
        for (int sign = 0; sign < SIGNS; sign++) {
            for (int letter = 0; letter < LETTERS; letter++) {
                if ((set >> sign & 1) == 1) {
                    found |= norms.firstsWithin(table.ruleOf(sign, letter));
                }
            }
        }
        return found;
    }

    private void reduceBoth(int row, int other) {
        forms.find(table);
        one.clear();
        forms.putAhead(one, row);
        two.clear();
        forms.putAhead(two, other);
    }

    private int brokenClaims() {
        forms.find(table);
        int set = 0;
        for (int sign = 0; sign < SIGNS; sign++) {
            if (breakingLetter(sign) != NONE) {
                set |= 1 << sign;
            }
        }
        return set;
    }

    private void removeClaims(int set) {
        for (int sign = 0; sign < SIGNS; sign++) {
            if ((set >> sign & 1) == 1) {
                table.setClaim(sign, NONE);
            }
        }
    }

    /** The first LETTER by which the CLAIM of a SIGN is BROKEN, by the forms found last. */
    private int breakingLetter(int sign) {
        int claim = table.claimOf(sign);
        for (int letter = 0; letter < LETTERS && claim != NONE; letter++) {
            if (isBrokenBy(sign, claim, letter)) {
                return letter;
            }
        }
        return NONE;
    }

    private boolean isBrokenBy(int sign, int claim, int letter) {
        int unit = firstUnit(claim);
        int ofSign = table.ruleOf(sign, letter);
        int ofClaimed = table.ruleOf(claim / unit - 1, letter);
        if (ofSign == NONE || ofClaimed == NONE) {
            return ofSign != ofClaimed;
        }
        one.clear();
        forms.putAhead(one, ofSign);
        two.clear();
        forms.putAhead(two, claim % unit);
        forms.putAhead(two, ofClaimed);
        return !one.isSame(two);
    }

    /** The power of ten of the first digit of a CLAIM's ROW; never 0, so it may divide. */
    private static int firstUnit(int claim) {
        if (claim >= 100) {
            return 100;
        }
        return claim >= 10 ? 10 : 1;
    }

    /** Tries each ROW as the CLAIM of a SIGN, and leaves one of them there. */
    private int mightFrom(int s, int k) {
        int count = 0;
        int last = s + s * s + s * s * s;
        for (int place = 1; place <= last; place++) {
            int row = rowInOrder(place, s);
            table.setClaim(s, row);
            forms.find(table);
            if (breakingLetter(s) == NONE) {
                if (count == k) {
                    return row;
                }
                count++;
            }
        }
        return k == -1 ? count : NONE;
    }

    /** SIGNS or LETTERS in a row, held last one first, since what changes is where the first is. */
    private static final class Row {
        private final int[] signs;
        private int length;

        Row(int most) {
            signs = new int[Math.max(most, 0)];
        }

        void clear() {
            length = 0;
        }

        int size() {
            return length;
        }

        int fromFirst(int k) {
            return fromLast(length - 1 - k);
        }

        int fromLast(int k) {
            return k < 0 || k >= length || k >= signs.length ? NONE : signs[k];
        }

        void dropFirst() {
            length = Math.max(length - 1, 0);
        }

        void putFirst(int sign) {
            if (length < signs.length) {
                signs[length] = sign;
                length++;
            }
        }

        /** Puts the row that a number tells ahead of what is here. */
        void putRowAhead(long row) {
            for (long left = row; left > 0; left /= 10) {
                putFirst((int) (left % 10) - 1);
            }
        }

        void putAllAhead(Row other) {
            if (other.length <= signs.length - length) {
                System.arraycopy(other.signs, 0, signs, length, other.length);
                length += other.length;
            }
        }

        int sameFromFirst(Row other) {
            int most = Math.min(length, other.length);
            int count = 0;
            while (count < most && fromFirst(count) == other.fromFirst(count)) {
                count++;
            }
            return count;
        }

        int sameFromLast(Row other) {
            int most = Math.min(length, other.length);
            int count = 0;
            while (count < most && fromLast(count) == other.fromLast(count)) {
                count++;
            }
            return count;
        }

        boolean isSame(Row other) {
            return length == other.length && sameFromLast(other) == length;
        }
    }

    /** The RULES and CLAIMS: of each the number of its ROW, or NONE. */
    private static final class Table {
        private final int[] rules = new int[SIGNS * LETTERS];
        private final int[] claims = new int[SIGNS];

        Table() {
            Arrays.fill(rules, NONE);
            Arrays.fill(claims, NONE);
        }

        /** NONE also where there is no such SIGN: the empty ROW's first one has no RULE. */
        int ruleOf(int sign, int letter) {
            return isSign(sign) && isLetter(letter) ? rules[sign * LETTERS + letter] : NONE;
        }

        void setRule(int sign, int letter, int row) {
            if (isSign(sign) && isLetter(letter)) {
                rules[sign * LETTERS + letter] = row;
            }
        }

        int claimOf(int sign) {
            return isSign(sign) ? claims[sign] : NONE;
        }

        void setClaim(int sign, int row) {
            if (isSign(sign)) {
                claims[sign] = row;
            }
        }

        int countRules() {
            return countPresent(rules);
        }

        int countClaims() {
            return countPresent(claims);
        }

        private static int countPresent(int[] rows) {
            int count = 0;
            for (int row : rows) {
                if (row != NONE) {
                    count++;
                }
            }
            return count;
        }

        void copyFrom(Table other) {
            System.arraycopy(other.rules, 0, rules, 0, rules.length);
            System.arraycopy(other.claims, 0, claims, 0, claims.length);
        }
    }

    /** What was ahead of each of the last CHANGES, in a ring, so that the oldest gives way. */
    private static final class Past {
        private final Table[] ahead = new Table[CHANGES_KEPT];
        private int next;
        private int kept;

        Past() {
            for (int k = 0; k < CHANGES_KEPT; k++) {
                ahead[k] = new Table();
            }
        }

        int kept() {
            return kept;
        }

        void keep(Table table) {
            ahead[place(0)].copyFrom(table);
            next = place(1);
            kept = Math.min(kept + 1, CHANGES_KEPT);
        }

        void bringBack(Table table, int changes) {
            if (changes > 0 && changes <= kept) {
                next = place(-changes);
                kept -= changes;
                table.copyFrom(ahead[place(0)]);
            }
        }

        /** So many steps on from the next place, never out of the ring. */
        private int place(int steps) {
            return Math.floorMod(next + steps, CHANGES_KEPT);
        }
    }

    /** A ROW as it READS LETTERS one by one. */
    private static final class Reader {
        final Row left = new Row(LONGEST_ROW + LONGEST_WORD * (LONGEST_PLACE - 1));

        private final Row ahead = new Row(LONGEST_WORD);

        void start(int row) {
            left.clear();
            left.putRowAhead(row);
        }

        boolean step(Table table, int letter) {
            int rule = table.ruleOf(left.fromFirst(0), letter);
            if (rule == NONE) {
                return false;
            }
            left.dropFirst();
            left.putRowAhead(rule);
            return true;
        }

        int countRead(Table table, int row, long letters) {
            start(row);
            ahead.clear();
            ahead.putRowAhead(letters);
            int count = 0;
            while (count < LONGEST_WORD && ahead.size() > 0 && step(table, ahead.fromFirst(0))) {
                ahead.dropFirst();
                count++;
            }
            return count;
        }

        boolean readsToEnd() {
            return ahead.size() == 0;
        }
    }

    /** NORM of each SIGN as a ROW of one, or NONE. */
    private static final class Norms {
        private final int[] ofSign = new int[SIGNS];

        void find(Table table) {
            Arrays.fill(ofSign, NONE);
            // As a SIGN goes by a shortest WORD it need not come again, so SIGNS rounds are enough.
            for (int round = 0; round < SIGNS; round++) {
                for (int sign = 0; sign < SIGNS; sign++) {
                    ofSign[sign] = byLetter(table, sign, leastLetter(table, sign));
                }
            }
        }

        int ofRow(int row) {
            int sum = 0;
            for (int left = row; left > 0; left /= 10) {
                int norm = of(left % 10 - 1);
                if (norm == NONE) {
                    return NONE;
                }
                sum += norm;
            }
            return sum;
        }

        int countFound() {
            int count = 0;
            for (int norm : ofSign) {
                if (norm != NONE) {
                    count++;
                }
            }
            return count;
        }

        /** The first LETTER with which a shortest WORD of a SIGN begins, or NONE. */
        int leastLetter(Table table, int sign) {
            int best = NONE;
            int bestNorm = NONE;
            for (int letter = 0; letter < LETTERS; letter++) {
                int norm = byLetter(table, sign, letter);
                if (norm != NONE && (bestNorm == NONE || norm < bestNorm)) {
                    best = letter;
                    bestNorm = norm;
                }
            }
            return best;
        }

        /** Which SIGNS of a ROW come to be its first as the ones ahead of them go, as a set. */
        int firstsWithin(int row) {
            int set = 0;
            for (int left = row; left > 0; left /= 10) {
                int sign = left % 10 - 1;
                // What is behind a SIGN without a WORD never comes to be the first.
                set = of(sign) == NONE ? 1 << sign : set | 1 << sign;
            }
            return set;
        }

        private int byLetter(Table table, int sign, int letter) {
            int rule = table.ruleOf(sign, letter);
            int norm = rule == NONE ? NONE : ofRow(rule);
            return norm == NONE ? NONE : norm + 1;
        }

        private int of(int sign) {
            return isSign(sign) ? ofSign[sign] : NONE;
        }
    }

    /** How many WORDS of so many LETTERS each SIGN has; no two ways of reading make one WORD. */
    private static final class Counts {
        private final int[][] ofSign = new int[SIGNS][LONGEST_WORD + 1];
        private final int[] ofPart = new int[LONGEST_WORD + 1];

        /** Finds them for 0 .. n LETTERS, each number of LETTERS by the lesser ones. */
        void find(Table table, int n) {
            for (int m = 0; m <= n && m <= LONGEST_WORD; m++) {
                for (int sign = 0; sign < SIGNS; sign++) {
                    ofSign[sign][m] = byRules(table, sign, m - 1);
                }
            }
        }

        /** Needs the counts of 0 .. n LETTERS found. */
        int ofRow(int row, int n) {
            if (n < 0 || n > LONGEST_WORD) {
                return 0;
            }
            Arrays.fill(ofPart, 0);
            ofPart[0] = 1;
            for (int left = row; left > 0; left /= 10) {
                addSign(left % 10 - 1, n);
            }
            return ofPart[n];
        }

        private int byRules(Table table, int sign, int n) {
            int sum = 0;
            for (int letter = 0; letter < LETTERS; letter++) {
                int rule = table.ruleOf(sign, letter);
                if (rule != NONE) {
                    sum += ofRow(rule, n);
                }
            }
            return sum;
        }

        /** From n down, so that what a count is made of still stands: no SIGN's WORD is empty. */
        private void addSign(int sign, int n) {
            for (int m = n; m >= 0; m--) {
                int sum = 0;
                for (int own = 1; own <= m && isSign(sign); own++) {
                    sum += ofSign[sign][own] * ofPart[m - own];
                }
                ofPart[m] = sum;
            }
        }
    }

    /** Each SIGN REDUCED. */
    private static final class Forms {
        /** Each of the five SIGNS above the least may make the form three times as long. */
        static final int LONGEST = 243;

        private final Row[] ofSign = new Row[SIGNS];

        Forms() {
            for (int sign = 0; sign < SIGNS; sign++) {
                ofSign[sign] = new Row(LONGEST);
            }
        }

        /** In the order of the SIGNS, since a CLAIM is made of lesser ones. */
        void find(Table table) {
            for (int sign = 0; sign < SIGNS; sign++) {
                Row form = ofSign[sign];
                int claim = table.claimOf(sign);
                form.clear();
                if (claim == NONE) {
                    form.putFirst(sign);
                } else {
                    putAhead(form, claim);
                }
            }
        }

        /** Puts a ROW, REDUCED, ahead of what is in another. */
        void putAhead(Row whole, int row) {
            for (int left = row; left > 0; left /= 10) {
                int sign = left % 10 - 1;
                if (isSign(sign)) {
                    whole.putAllAhead(ofSign[sign]);
                }
            }
        }
    }
}
