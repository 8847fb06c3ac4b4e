/**
 * A test for each promise of the document: ordinary inputs, the edges that the document names, and
 * wrong inputs. Prints every answer that is not the one due, and ends with 1 if there was one.
 */
public final class PromisesTest {
    private static final int UNKNOWN = -1;
    private static final int OUTSIDE = -2;
    private static final int NONE = -9;
    private static final long LOST = Long.MIN_VALUE;

    private static int wrong = 0;
    private static int asked = 0;

    private static void due(String call, long got, long want) {
        asked++;
        if (got != want) {
            wrong++;
            System.out.println(call + " answered " + got + ", due is " + want);
        }
    }

    public static void main(String[] args) {
        constants();
        newObject();
        rule();
        ofRule();
        read();
        norm();
        least();
        words();
        parts();
        firsts();
        claim();
        ofClaim();
        reduced();
        alike();
        common();
        broken();
        settle();
        might();
        undo();
        undoOfSettle();
        many();
        refusalsChangeNothing();
        askingChangesNothing();
        objectsAreApart();
        System.out.println(asked + " answers, " + wrong + " not as due");
        if (wrong != 0) {
            System.exit(1);
        }
    }

    private static void constants() {
        due("UNKNOWN", FirstSigns.UNKNOWN, UNKNOWN);
        due("OUTSIDE", FirstSigns.OUTSIDE, OUTSIDE);
        due("NONE", FirstSigns.NONE, NONE);
        due("LOST", FirstSigns.LOST, LOST);
    }

    // ---- promise 1

    private static void newObject() {
        FirstSigns x = new FirstSigns();
        for (int s = 0; s < 6; s++) {
            for (int letter = 0; letter < 3; letter++) {
                due("1: new ofRule", x.ofRule(s, letter), NONE);
            }
            due("1: new ofClaim", x.ofClaim(s), NONE);
        }
        for (int what = 0; what < 5; what++) {
            due("1: new many " + what, x.many(what), 0);
        }
    }

    // ---- promise 2

    private static void rule() {
        FirstSigns x = new FirstSigns();
        due("2: first RULE", x.rule(0, 0, 123), NONE);
        due("2: what it was", x.rule(0, 0, 0), 123);
        due("2: the empty ROW is a RULE", x.rule(0, 0, 666), 0);
        due("2: away", x.rule(0, 0, NONE), 666);
        due("2: away again", x.rule(0, 0, NONE), NONE);
        due("2: the last SIGN and LETTER", x.rule(5, 2, 6), NONE);
        due("2: no other RULE was touched", x.many(0), 1);
        due("2: it stands", x.ofRule(5, 2), 6);
        due("2: SIGN above", x.rule(6, 0, 0), UNKNOWN);
        due("2: SIGN below", x.rule(-1, 0, 0), UNKNOWN);
        due("2: LETTER above", x.rule(0, 3, 0), UNKNOWN);
        due("2: LETTER below", x.rule(0, -1, 0), UNKNOWN);
        due("2: UNKNOWN comes first", x.rule(6, 0, 7), UNKNOWN);
        due("2: UNKNOWN comes first, LETTER", x.rule(0, 3, 7), UNKNOWN);
        due("2: four SIGNS", x.rule(0, 0, 1111), OUTSIDE);
        due("2: digit 7", x.rule(0, 0, 17), OUTSIDE);
        due("2: digit 0 at the end", x.rule(0, 0, 10), OUTSIDE);
        due("2: digit 0 within", x.rule(0, 0, 101), OUTSIDE);
        due("2: below 0", x.rule(0, 0, -1), OUTSIDE);
        due("2: just below NONE", x.rule(0, 0, -10), OUTSIDE);
        due("2: least int", x.rule(0, 0, Integer.MIN_VALUE), OUTSIDE);
        due("2: greatest int", x.rule(0, 0, Integer.MAX_VALUE), OUTSIDE);
        due("2: refused ones are no CHANGES", x.many(3), 6);
    }

    // ---- promise 3

    private static void ofRule() {
        FirstSigns x = new FirstSigns();
        int row = 111;
        for (int s = 0; s < 6; s++) {
            for (int letter = 0; letter < 3; letter++) {
                x.rule(s, letter, row + 10 * letter + s);
            }
        }
        for (int s = 0; s < 6; s++) {
            for (int letter = 0; letter < 3; letter++) {
                due("3: each its own", x.ofRule(s, letter), row + 10 * letter + s);
            }
        }
        due("3: SIGN above", x.ofRule(6, 0), UNKNOWN);
        due("3: SIGN below", x.ofRule(-1, 2), UNKNOWN);
        due("3: LETTER above", x.ofRule(0, 3), UNKNOWN);
        due("3: LETTER below", x.ofRule(1, -1), UNKNOWN);
        due("3: far", x.ofRule(Integer.MAX_VALUE, Integer.MIN_VALUE), UNKNOWN);
    }

    // ---- promise 4

    private static void read() {
        FirstSigns x = new FirstSigns();
        x.rule(0, 0, 23);
        x.rule(1, 1, 0);
        x.rule(2, 2, 3);
        x.rule(2, 0, 0);
        readAll(x, 1, 12331, 5, 0, NONE, 1);
        readAll(x, 1, 12333, 5, 1, 2, 0);
        readAll(x, 1, 1, 1, 2, 1, 0);
        readAll(x, 1, 11, 1, 2, 1, 0);
        readAll(x, 1, 2, 0, 1, 0, 0);
        readAll(x, 11, 12, 2, 2, 2, 0);
        readAll(x, 2, 2, 1, 0, NONE, 1);
        // Letters behind a WORD are not read: then the row is none.
        readAll(x, 2, 22, 1, 0, NONE, 0);
        readAll(x, 0, 0, 0, 0, NONE, 1);
        readAll(x, 0, 1, 0, 0, NONE, 0);
        readAll(x, 2, 0, 0, 1, 1, 0);
        readAll(x, 6, 1, 0, 1, 5, 0);
        readAll(x, 222222222, 222222222L, 9, 0, NONE, 1);
        readAll(x, 322222222, 333333333333L, 12, 9, 2, 0);
        FirstSigns y = new FirstSigns();
        y.rule(5, 2, 666);
        readAll(y, 666666666, 333333333333L, 12, 33, 5, 0);
        due("4: ten SIGNS", x.read(1111111111, 0, 0), OUTSIDE);
        due("4: digit 7", x.read(7, 0, 0), OUTSIDE);
        due("4: digit 0", x.read(10, 0, 0), OUTSIDE);
        due("4: ROW below 0", x.read(-9, 0, 0), OUTSIDE);
        due("4: LETTER 3", x.read(1, 4, 0), OUTSIDE);
        due("4: LETTER digit 0", x.read(1, 102, 0), OUTSIDE);
        due("4: thirteen LETTERS", x.read(1, 1111111111111L, 0), OUTSIDE);
        due("4: LETTERS below 0", x.read(1, -1, 0), OUTSIDE);
        due("4: least long", x.read(1, Long.MIN_VALUE, 0), OUTSIDE);
        due("4: greatest long", x.read(1, Long.MAX_VALUE, 0), OUTSIDE);
        due("4: not cut to an int", x.read(1, 1L << 32, 0), OUTSIDE);
        due("4: what above", x.read(1, 1, 4), OUTSIDE);
        due("4: what below", x.read(1, 1, -1), OUTSIDE);
    }

    private static void readAll(
            FirstSigns x, int row, long letters, int count, int left, int first, int word) {
        String call = "4: read " + row + " " + letters + " ";
        due(call + 0, x.read(row, letters, 0), count);
        due(call + 1, x.read(row, letters, 1), left);
        due(call + 2, x.read(row, letters, 2), first);
        due(call + 3, x.read(row, letters, 3), word);
    }

    // ---- promise 5

    private static void norm() {
        FirstSigns x = new FirstSigns();
        due("5: empty", x.norm(0), 0);
        due("5: no RULES", x.norm(3), NONE);
        x.rule(0, 0, 0);
        x.rule(1, 0, 111);
        x.rule(1, 2, 11);
        x.rule(2, 1, 3);
        x.rule(3, 0, 5);
        x.rule(4, 0, 6);
        x.rule(5, 0, 4);
        due("5: one LETTER", x.norm(1), 1);
        due("5: the lesser of two", x.norm(2), 3);
        due("5: only itself", x.norm(3), NONE);
        due("5: a ring", x.norm(4), NONE);
        due("5: a sum", x.norm(121), 5);
        due("5: one without spoils all", x.norm(113), NONE);
        due("5: one without ahead", x.norm(311), NONE);
        x.rule(5, 1, 2);
        due("5: the ring has a way out", x.norm(4), 6);
        due("5: further in", x.norm(5), 5);
        due("5: nine SIGNS", x.norm(222222222), 27);
        x.rule(1, 2, NONE);
        due("5: the RULE is away", x.norm(2), 4);
        due("5: digit 7", x.norm(7), OUTSIDE);
        due("5: ten SIGNS", x.norm(1111111111), OUTSIDE);
        due("5: below 0", x.norm(NONE), OUTSIDE);
        due("5: greatest int", x.norm(Integer.MAX_VALUE), OUTSIDE);
        due("5: least int", x.norm(Integer.MIN_VALUE), OUTSIDE);
        due("5: longest, upwards", tower(new int[] {0, 1, 2, 3, 4, 5}).norm(666666666), 3276);
        due("5: longest, downwards", tower(new int[] {5, 4, 3, 2, 1, 0}).norm(111111111), 3276);
    }

    /** Each SIGN of the order gives place to three of the one named ahead of it. */
    private static FirstSigns tower(int[] order) {
        FirstSigns x = new FirstSigns();
        x.rule(order[0], 0, 0);
        for (int k = 1; k < order.length; k++) {
            x.rule(order[k], 0, 111 * (order[k - 1] + 1));
        }
        return x;
    }

    // ---- promise 6

    private static void least() {
        FirstSigns x = new FirstSigns();
        due("6: empty", x.least(0), 0);
        due("6: no WORD", x.least(1), NONE);
        x.rule(0, 1, 0);
        x.rule(0, 2, 0);
        due("6: the lesser LETTER", x.least(1), 2);
        x.rule(1, 0, 11);
        x.rule(1, 1, 1);
        due("6: shorter goes ahead of lesser", x.least(2), 22);
        x.rule(2, 0, 2);
        x.rule(2, 1, 1);
        x.rule(2, 2, 1);
        due("6: two steps", x.least(3), 22);
        x.rule(2, 1, 2);
        due("6: shortest by the last LETTER", x.least(3), 32);
        due("6: one behind another", x.least(213), 22232);
        due("6: twelve", x.least(222222), 222222222222L);
        due("6: twelve of nine", x.least(222111111), 222222222222L);
        due("6: thirteen", x.least(2222221), NONE);
        x.rule(3, 0, 4);
        due("6: a SIGN without a WORD", x.least(41), NONE);
        x.rule(3, 0, 1);
        x.rule(3, 1, 1);
        due("6: alike short, the first LETTER", x.least(4), 12);
        due("6: digit 7", x.least(70), LOST);
        due("6: ten SIGNS", x.least(1111111111), LOST);
        due("6: below 0", x.least(-1), LOST);
    }

    // ---- promise 7

    private static void words() {
        FirstSigns x = new FirstSigns();
        due("7: the empty WORD", x.words(0, 0), 1);
        due("7: the empty ROW has no other", x.words(0, 1), 0);
        due("7: a SIGN never has the empty one", x.words(1, 0), 0);
        x.rule(0, 0, 11);
        x.rule(0, 1, 0);
        // Binary trees: the Catalan numbers.
        int[] catalan = {0, 1, 0, 1, 0, 2, 0, 5, 0, 14, 0, 42, 0};
        for (int n = 0; n <= 12; n++) {
            due("7: Catalan " + n, x.words(1, n), catalan[n]);
        }
        due("7: two of them", x.words(11, 12), 132);
        x.rule(1, 0, 2);
        x.rule(1, 1, 2);
        x.rule(1, 2, 2);
        due("7: none ends", x.words(2, 12), 0);
        x.rule(1, 0, 0);
        due("7: all but the last free", x.words(2, 12), 2048);
        x.rule(2, 0, 0);
        x.rule(2, 1, 0);
        x.rule(2, 2, 0);
        due("7: nine SIGNS", x.words(333333333, 9), 19683);
        due("7: nine SIGNS, another length", x.words(333333333, 10), 0);
        x.rule(3, 0, 333);
        x.rule(3, 1, 444);
        due("7: three SIGNS in a RULE", x.words(4, 4), 27);
        due("7: three SIGNS in a RULE, twice", x.words(4, 12), 0);
        due("7: as many as can be", full().words(1, 12), 0);
        due("7: as many as can be, by ones", full().words(6, 12), 531441);
        due("7: n above", x.words(1, 13), OUTSIDE);
        due("7: n below", x.words(1, -1), OUTSIDE);
        due("7: digit 7", x.words(7, 0), OUTSIDE);
        due("7: ten SIGNS", x.words(1111111111, 0), OUTSIDE);
        due("7: below 0", x.words(NONE, 0), OUTSIDE);
    }

    /** SIGN 0 never ends; 1 .. 5 have all WORDS of 1, 3, 4, 12 LETTERS: 5 has those of 12. */
    private static FirstSigns full() {
        FirstSigns x = new FirstSigns();
        for (int letter = 0; letter < 3; letter++) {
            x.rule(0, letter, 1);
            x.rule(1, letter, 0);
            x.rule(2, letter, 22);
            x.rule(3, letter, 222);
            x.rule(4, letter, 33);
            x.rule(5, letter, 443);
        }
        return x;
    }

    // ---- promise 8

    private static void parts() {
        FirstSigns x = new FirstSigns();
        x.rule(0, 0, 0);
        x.rule(1, 0, 2);
        x.rule(2, 0, 3);
        x.rule(2, 2, 0);
        x.rule(3, 1, 4);
        x.rule(3, 2, 0);
        x.rule(4, 2, 4);
        x.rule(4, 0, 4);
        due("8: the same", x.parts(123, 123, 0), NONE);
        due("8: the empty WORD", x.parts(0, 3, 0), 0);
        due("8: both READ nothing to its end", x.parts(0, 6, 1), NONE);
        due("8: one READS a LETTER", x.parts(0, 1, 1), 1);
        due("8: the other READS it", x.parts(1, 0, 1), 1);
        due("8: WORDS of one LETTER", x.parts(3, 1, 0), 1);
        due("8: no WORD at all", x.parts(2, 6, 0), NONE);
        due("8: the first by LETTERS", x.parts(2, 4, 1), 1);
        due("8: WORDS, the shorter", x.parts(3, 33, 0), 3);
        due("8: WORDS, the first of the shortest", x.parts(3, 4, 0), 13);
        due("8: READS, the first of the shortest", x.parts(5, 4, 1), 1);
        due("8: READS further", x.parts(11, 111, 1), 111);
        due("8: six LETTERS", x.parts(11111, 111111, 1), 111111);
        due("8: six LETTERS, a WORD", x.parts(111111, 1111111, 0), 111111);
        due("8: seven would be needed", x.parts(111111, 1111111, 1), NONE);
        due("8: seven would be needed, WORDS", x.parts(1111111, 11111111, 0), NONE);
        due("8: last of the sixes", last().parts(1, 2, 0), 333333);
        due("8: how above", x.parts(1, 2, 2), LOST);
        due("8: how below", x.parts(1, 2, -1), LOST);
        due("8: a ROW", x.parts(7, 1, 0), LOST);
        due("8: the other ROW", x.parts(1, 7, 0), LOST);
        due("8: ten SIGNS", x.parts(1111111111, 1, 1), LOST);
        due("8: below 0", x.parts(1, -1, 1), LOST);
    }

    /** SIGN 0 has the WORD of six LETTERS 2, and SIGN 1 goes on for ever by LETTER 2. */
    private static FirstSigns last() {
        FirstSigns x = new FirstSigns();
        x.rule(0, 2, 335);
        x.rule(2, 2, 4);
        x.rule(3, 2, 0);
        x.rule(4, 2, 0);
        x.rule(1, 2, 2);
        return x;
    }

    // ---- promise 9

    private static void firsts() {
        FirstSigns x = new FirstSigns();
        due("9: empty", x.firsts(0), 0);
        due("9: the first stays", x.firsts(654), 32);
        x.rule(5, 1, 0);
        due("9: it goes", x.firsts(654), 48);
        x.rule(4, 2, 1);
        due("9: what comes in its place, but no WORD", x.firsts(654), 49);
        x.rule(0, 0, 0);
        due("9: then all", x.firsts(654), 57);
        due("9: a row of two", x.firsts(66), 32);
        x.rule(3, 0, 432);
        due("9: behind itself nothing comes", x.firsts(4), 8);
        x.rule(3, 1, 0);
        due("9: now it does, but SIGN 2 has no WORD", x.firsts(4), 12);
        x.rule(2, 2, 0);
        due("9: and the last", x.firsts(4), 14);
        due("9: by a ROW of nine", x.firsts(666666664), 46);
        FirstSigns y = new FirstSigns();
        for (int s = 5; s > 0; s--) {
            y.rule(s, 0, s);
        }
        due("9: all the way down", y.firsts(6), 63);
        FirstSigns z = new FirstSigns();
        for (int s = 0; s < 5; s++) {
            z.rule(s, 2, s + 2);
        }
        due("9: all the way up", z.firsts(1), 63);
        due("9: from within", z.firsts(3), 60);
        due("9: digit 7", x.firsts(7), OUTSIDE);
        due("9: ten SIGNS", x.firsts(1111111111), OUTSIDE);
        due("9: below 0", x.firsts(-1), OUTSIDE);
    }

    // ---- promise 10

    private static void claim() {
        FirstSigns x = new FirstSigns();
        due("10: first CLAIM", x.claim(5, 555), NONE);
        due("10: what it was", x.claim(5, 1), 555);
        due("10: away", x.claim(5, NONE), 1);
        due("10: away again", x.claim(5, NONE), NONE);
        due("10: SIGN 1", x.claim(1, 111), NONE);
        due("10: SIGN 0 can have none", x.claim(0, 1), OUTSIDE);
        due("10: SIGN 0, NONE", x.claim(0, NONE), NONE);
        due("10: itself", x.claim(3, 4), OUTSIDE);
        due("10: itself within", x.claim(3, 141), OUTSIDE);
        due("10: greater", x.claim(1, 3), OUTSIDE);
        due("10: the empty ROW", x.claim(3, 0), OUTSIDE);
        due("10: four SIGNS", x.claim(5, 1111), OUTSIDE);
        due("10: digit 0", x.claim(5, 10), OUTSIDE);
        due("10: below 0", x.claim(5, -1), OUTSIDE);
        due("10: least int", x.claim(5, Integer.MIN_VALUE), OUTSIDE);
        due("10: SIGN above", x.claim(6, 1), UNKNOWN);
        due("10: SIGN below", x.claim(-1, 1), UNKNOWN);
        due("10: UNKNOWN comes first", x.claim(6, 0), UNKNOWN);
        due("10: CHANGES", x.many(3), 6);
        due("10: CLAIMS", x.many(1), 1);
    }

    // ---- promise 11

    private static void ofClaim() {
        FirstSigns x = new FirstSigns();
        for (int s = 1; s < 6; s++) {
            x.claim(s, s * 10 + 1);
        }
        for (int s = 1; s < 6; s++) {
            due("11: each its own", x.ofClaim(s), s * 10 + 1);
        }
        due("11: SIGN 0", x.ofClaim(0), NONE);
        x.claim(4, NONE);
        due("11: away", x.ofClaim(4), NONE);
        due("11: SIGN above", x.ofClaim(6), UNKNOWN);
        due("11: SIGN below", x.ofClaim(-1), UNKNOWN);
    }

    // ---- promise 12

    private static void reduced() {
        FirstSigns x = new FirstSigns();
        reducedTo(x, 0);
        reducedTo(x, 123456, 0, 1, 2, 3, 4, 5);
        x.claim(2, 12);
        x.claim(4, 23);
        reducedTo(x, 5, 1, 0, 1);
        reducedTo(x, 653, 5, 1, 0, 1, 0, 1);
        x.claim(1, 1);
        reducedTo(x, 5, 0, 0, 0);
        x.claim(4, NONE);
        reducedTo(x, 5, 4);
        FirstSigns y = new FirstSigns();
        y.claim(1, 111);
        y.claim(2, 222);
        y.claim(3, 333);
        y.claim(4, 444);
        y.claim(5, 155);
        due("12: one and two of 81", y.reduced(6, -1), 163);
        due("12: nine", y.reduced(666666666, -1), 1467);
        y.claim(5, 555);
        due("12: longest", y.reduced(666666666, -1), 2187);
        due("12: its last", y.reduced(666666666, 2186), 0);
        due("12: behind its last", y.reduced(666666666, 2187), NONE);
        due("12: far behind", y.reduced(666666666, Integer.MAX_VALUE), NONE);
        due("12: k below", y.reduced(6, -2), OUTSIDE);
        due("12: k least", y.reduced(6, Integer.MIN_VALUE), OUTSIDE);
        due("12: digit 7", y.reduced(7, -1), OUTSIDE);
        due("12: ten SIGNS", y.reduced(1111111111, -1), OUTSIDE);
        due("12: below 0", y.reduced(-1, -1), OUTSIDE);
    }

    private static void reducedTo(FirstSigns x, int row, int... signs) {
        due("12: how many of " + row, x.reduced(row, -1), signs.length);
        for (int k = 0; k < signs.length; k++) {
            due("12: of " + row + " the " + k, x.reduced(row, k), signs[k]);
        }
        due("12: of " + row + " no more", x.reduced(row, signs.length), NONE);
    }

    // ---- promise 13

    private static void alike() {
        FirstSigns x = new FirstSigns();
        due("13: the same", x.alike(123, 123), 1);
        due("13: both empty", x.alike(0, 0), 1);
        due("13: one empty", x.alike(0, 1), 0);
        due("13: another order", x.alike(12, 21), 0);
        due("13: no CLAIM yet", x.alike(3, 12), 0);
        x.claim(2, 12);
        due("13: by its CLAIM", x.alike(3, 12), 1);
        due("13: within", x.alike(431, 4121), 1);
        due("13: shorter, the same beginning", x.alike(3, 1), 0);
        due("13: longer, the same beginning", x.alike(1, 3), 0);
        due("13: shorter, the same end", x.alike(3, 2), 0);
        due("13: another first", x.alike(3, 22), 0);
        due("13: another last", x.alike(11, 3), 0);
        x.claim(4, 33);
        due("13: again and again", x.alike(5, 1212), 1);
        due("13: two ways", x.alike(5, 312), 1);
        due("13: a ROW", x.alike(7, 1), OUTSIDE);
        due("13: the other", x.alike(1, 8), OUTSIDE);
        due("13: ten SIGNS", x.alike(1, 1111111111), OUTSIDE);
        due("13: below 0", x.alike(-1, -1), OUTSIDE);
    }

    // ---- promise 14

    private static void common() {
        FirstSigns x = new FirstSigns();
        commonBoth(x, 0, 0, 0, 0);
        commonBoth(x, 0, 123, 0, 0);
        commonBoth(x, 123, 123, 3, 3);
        commonBoth(x, 1234, 1254, 2, 1);
        commonBoth(x, 12, 1212, 2, 2);
        commonBoth(x, 112, 12, 1, 2);
        commonBoth(x, 12, 21, 0, 0);
        x.claim(2, 12);
        x.claim(5, 331);
        commonBoth(x, 3, 1, 1, 0);
        commonBoth(x, 34, 124, 3, 3);
        commonBoth(x, 6, 12121, 5, 5);
        commonBoth(x, 6, 122, 2, 0);
        commonBoth(x, 6, 4121, 0, 3);
        due("14: end above", x.common(1, 1, 2), OUTSIDE);
        due("14: end below", x.common(1, 1, -1), OUTSIDE);
        due("14: a ROW", x.common(7, 1, 0), OUTSIDE);
        due("14: the other", x.common(1, 7, 1), OUTSIDE);
        due("14: ten SIGNS", x.common(1111111111, 1, 1), OUTSIDE);
        due("14: below 0", x.common(1, NONE, 0), OUTSIDE);
    }

    private static void commonBoth(FirstSigns x, int row, int other, int first, int last) {
        String call = "14: common " + row + " " + other + " ";
        due(call + 0, x.common(row, other, 0), first);
        due(call + 1, x.common(row, other, 1), last);
        due(call + "turned 0", x.common(other, row, 0), first);
        due(call + "turned 1", x.common(other, row, 1), last);
    }

    // ---- promise 15

    private static void brokenBoth(String when, FirstSigns x, int sign, int letter) {
        due("15: " + when + ", the SIGN", x.broken(0), sign);
        due("15: " + when + ", the LETTER", x.broken(1), letter);
    }

    private static void broken() {
        FirstSigns x = new FirstSigns();
        brokenBoth("no CLAIM", x, NONE, NONE);
        x.claim(3, 12);
        brokenBoth("no RULES at all", x, NONE, NONE);
        x.rule(3, 2, 2);
        brokenBoth("just the SIGN READS", x, 3, 2);
        x.rule(0, 2, 0);
        brokenBoth("both, the same left", x, NONE, NONE);
        x.rule(0, 2, 1);
        brokenBoth("both, another left", x, 3, 2);
        x.rule(3, 2, 12);
        brokenBoth("the rest of the CLAIM is left too", x, NONE, NONE);
        x.rule(3, 2, 4);
        brokenBoth("by the CLAIM itself", x, NONE, NONE);
        x.rule(0, 1, 0);
        brokenBoth("just the CLAIM's ROW READS", x, 3, 1);
        x.rule(1, 0, 0);
        brokenBoth("only its first SIGN matters", x, 3, 1);
        x.rule(3, 1, 0);
        brokenBoth("nothing against something", x, 3, 1);
        x.rule(3, 1, 2);
        brokenBoth("mended", x, NONE, NONE);
        x.claim(4, 4);
        brokenBoth("the least SIGN is 4", x, 4, 1);
        x.rule(4, 0, 0);
        brokenBoth("the first LETTER is 0", x, 4, 0);
        x.claim(1, 1);
        brokenBoth("the least SIGN is 1", x, 1, 0);
        due("15: what above", x.broken(2), OUTSIDE);
        due("15: what below", x.broken(-1), OUTSIDE);
        // A RULE's SIGN is greater than the one claimed: what is left may be longest.
        FirstSigns y = new FirstSigns();
        y.claim(1, 111);
        y.claim(2, 222);
        y.claim(3, 333);
        y.claim(4, 444);
        y.claim(5, 555);
        y.rule(4, 0, 666);
        y.rule(5, 0, 666);
        brokenBoth("shorter by 162", y, 4, 0);
        y.rule(0, 0, 6);
        y.rule(1, 0, 611);
        y.rule(2, 0, 622);
        y.rule(3, 0, 633);
        y.rule(4, 0, 644);
        y.rule(5, 0, 655);
        brokenBoth("long ones, rests missing", y, 2, 0);
        y.rule(1, 0, NONE);
        y.rule(0, 0, NONE);
        y.rule(2, 0, NONE);
        y.rule(3, 0, NONE);
        brokenBoth("none reads but 4 and 5", y, 4, 0);
    }

    // ---- promise 16

    private static void settle() {
        FirstSigns x = new FirstSigns();
        due("16: nothing to do", x.settle(), 0);
        due("16: it is a CHANGE all the same", x.many(3), 1);
        x.rule(0, 0, 0);
        x.rule(1, 0, 0);
        x.rule(2, 1, 1);
        x.rule(3, 1, 2);
        x.claim(1, 1);
        x.claim(3, 3);
        due("16: all stand together", x.settle(), 0);
        due("16: they stay", x.many(1), 2);
        x.rule(0, 2, 0);
        due("16: 3 stands by 1, which is broken", x.many(4), 1);
        due("16: both go, one behind the other", x.settle(), 2);
        due("16: none is left", x.many(1), 0);
        x.claim(1, 1);
        x.claim(2, 1);
        x.claim(3, 3);
        x.rule(0, 2, NONE);
        due("16: only 2 is broken, 3 stands without it", x.settle(), 1);
        due("16: 1 stays", x.ofClaim(1), 1);
        due("16: 2 is gone", x.ofClaim(2), NONE);
        due("16: 3 stays", x.ofClaim(3), 3);
        due("16: nothing is broken then", x.broken(0), NONE);
        FirstSigns y = new FirstSigns();
        y.rule(0, 0, 0);
        y.rule(5, 1, 2);
        y.rule(4, 1, 1);
        y.claim(5, 5);
        y.claim(1, 1);
        due("16: 5 stands by 1", y.broken(0), 1);
        due("16: 1, then 5", y.settle(), 2);
        FirstSigns z = new FirstSigns();
        z.claim(1, 11);
        z.rule(1, 0, 0);
        z.rule(2, 1, 1);
        z.rule(3, 1, 2);
        z.claim(3, 3);
        due("16: two broken at once", z.many(4), 2);
        due("16: both go at once", z.settle(), 2);
        due("16: neither is left", z.many(1), 0);
        FirstSigns w = new FirstSigns();
        w.claim(1, 1);
        w.claim(2, 1);
        w.rule(1, 0, 1);
        w.rule(2, 0, 3);
        w.rule(0, 0, 2);
        w.rule(4, 1, 3);
        w.rule(5, 1, 1);
        w.claim(5, 5);
        due("16: a chain stands", w.settle(), 0);
        w.rule(2, 2, 0);
        due("16: 2, then 5", w.settle(), 2);
        due("16: 1 stays in a ring with 0", w.ofClaim(1), 1);
    }

    // ---- promise 17

    private static void might() {
        FirstSigns x = new FirstSigns();
        int[] all = {0, 3, 14, 39, 84, 155};
        for (int s = 0; s < 6; s++) {
            due("17: no RULES, all ROWS of SIGN " + s, x.might(s, -1), all[s]);
        }
        due("17: SIGN 0 has none", x.might(0, 0), NONE);
        int[] ofTwo = {1, 2, 11, 12, 21, 22, 111, 112, 121, 122, 211, 212, 221, 222};
        for (int k = 0; k < ofTwo.length; k++) {
            due("17: shorter first, then by number", x.might(2, k), ofTwo[k]);
        }
        due("17: no more", x.might(2, 14), NONE);
        due("17: far behind", x.might(2, Integer.MAX_VALUE), NONE);
        due("17: the last of 5", x.might(5, 154), 555);
        due("17: behind the last of 5", x.might(5, 155), NONE);
        x.rule(0, 0, 0);
        x.rule(3, 0, 23);
        due("17: just one", x.might(3, -1), 1);
        due("17: it", x.might(3, 0), 123);
        due("17: just one, no more", x.might(3, 1), NONE);
        x.rule(1, 0, 0);
        due("17: SIGN 1 reads too", x.might(3, -1), 2);
        due("17: the second", x.might(3, 1), 223);
        x.claim(2, 12);
        due("17: the other CLAIMS count", x.might(3, -1), 2);
        x.rule(3, 0, 212);
        due("17: reduced to more ways", x.might(3, -1), 2);
        due("17: the first way", x.might(3, 0), 123);
        due("17: the second way", x.might(3, 1), 223);
        x.claim(2, NONE);
        x.rule(3, 0, 4);
        x.rule(0, 0, 13);
        due("17: by itself reduced", x.might(3, -1), 0);
        x.rule(0, 0, 1);
        due("17: a SIGN that stays", x.might(3, -1), 13);
        due("17: the first that stays", x.might(3, 0), 1);
        due("17: the last that stays", x.might(3, 12), 133);
        x.claim(3, 22);
        due("17: its own CLAIM now does not matter", x.might(3, -1), 13);
        due("17: and still stands", x.ofClaim(3), 22);
        due("17: SIGN above", x.might(6, -1), UNKNOWN);
        due("17: SIGN below", x.might(-1, -1), UNKNOWN);
        due("17: UNKNOWN comes first", x.might(6, -2), UNKNOWN);
        due("17: k below", x.might(5, -2), OUTSIDE);
        due("17: k least", x.might(0, Integer.MIN_VALUE), OUTSIDE);
    }

    // ---- promise 18

    private static void undo() {
        FirstSigns x = new FirstSigns();
        due("18: nothing to undo", x.undo(0), 0);
        due("18: more than nothing", x.undo(1), OUTSIDE);
        x.rule(0, 0, 1);
        x.rule(0, 0, 2);
        x.claim(1, 1);
        x.rule(0, 0, NONE);
        due("18: below", x.undo(-1), OUTSIDE);
        due("18: least int", x.undo(Integer.MIN_VALUE), OUTSIDE);
        due("18: above", x.undo(5), OUTSIDE);
        due("18: none", x.undo(0), 4);
        due("18: none, nothing changed", x.ofRule(0, 0), NONE);
        due("18: the last", x.undo(1), 3);
        due("18: the RULE is there again", x.ofRule(0, 0), 2);
        due("18: the CLAIM still", x.ofClaim(1), 1);
        due("18: two", x.undo(2), 1);
        due("18: the RULE ahead of it", x.ofRule(0, 0), 1);
        due("18: no CLAIM", x.ofClaim(1), NONE);
        due("18: more than are kept", x.undo(2), OUTSIDE);
        x.rule(0, 0, 5);
        due("18: a new CHANGE", x.many(3), 2);
        due("18: all", x.undo(2), 0);
        due("18: as it was at first", x.many(0), 0);
        FirstSigns y = new FirstSigns();
        for (int k = 1; k <= 6; k++) {
            for (int place = 1; place <= 6; place++) {
                y.rule(3, 2, k * 10 + place);
            }
        }
        due("18: twenty are kept", y.many(3), 20);
        due("18: one more", y.undo(21), OUTSIDE);
        due("18: seven", y.undo(7), 13);
        due("18: ahead of seven", y.ofRule(3, 2), 55);
        due("18: thirteen", y.undo(13), 0);
        due("18: ahead of twenty", y.ofRule(3, 2), 34);
        due("18: no more", y.undo(1), OUTSIDE);
        for (int k = 0; k < 25; k++) {
            y.claim(0, NONE);
        }
        due("18: twenty again", y.undo(20), 0);
        due("18: CHANGES that leave all as it was", y.ofRule(3, 2), 34);
    }

    private static void undoOfSettle() {
        FirstSigns x = new FirstSigns();
        x.rule(0, 0, 0);
        x.claim(1, 1);
        x.claim(2, 12);
        due("18: settle", x.settle(), 2);
        due("18: settle undone", x.undo(1), 3);
        due("18: its CLAIM 1", x.ofClaim(1), 1);
        due("18: its CLAIM 2", x.ofClaim(2), 12);
    }

    // ---- promise 19

    private static void many() {
        FirstSigns x = new FirstSigns();
        x.rule(0, 0, 0);
        x.rule(0, 1, 0);
        x.rule(1, 2, 12);
        x.rule(5, 2, 1);
        x.claim(1, 1);
        x.claim(2, 2);
        x.claim(3, 1);
        manyAre(x, 4, 3, 2, 7, 3);
        x.rule(1, 0, 0);
        manyAre(x, 5, 3, 3, 8, 3);
        x.rule(2, 0, 0);
        manyAre(x, 6, 3, 4, 9, 3);
        x.rule(2, 2, 11);
        manyAre(x, 7, 3, 4, 10, 2);
        x.claim(3, NONE);
        x.rule(5, 2, NONE);
        manyAre(x, 6, 2, 3, 12, 1);
        x.settle();
        manyAre(x, 6, 0, 3, 13, 0);
        due("19: what above", x.many(5), OUTSIDE);
        due("19: what below", x.many(-1), OUTSIDE);
    }

    private static void manyAre(FirstSigns x, int... counts) {
        for (int what = 0; what < counts.length; what++) {
            due("19: many " + what, x.many(what), counts[what]);
        }
    }

    // ---- the terms

    private static void refusalsChangeNothing() {
        FirstSigns x = new FirstSigns();
        x.rule(0, 0, 12);
        x.claim(1, 1);
        x.rule(0, 0, 7);
        x.rule(0, 3, 1);
        x.claim(1, 2);
        x.claim(9, 1);
        x.undo(3);
        x.undo(-1);
        due("terms: the RULE", x.ofRule(0, 0), 12);
        due("terms: the CLAIM", x.ofClaim(1), 1);
        due("terms: CHANGES", x.many(3), 2);
    }

    private static void askingChangesNothing() {
        FirstSigns x = new FirstSigns();
        x.rule(0, 0, 12);
        x.rule(1, 1, 0);
        x.claim(1, 1);
        x.claim(3, 12);
        x.read(12, 12, 0);
        x.norm(12);
        x.least(12);
        x.words(12, 12);
        x.parts(12, 21, 0);
        x.firsts(12);
        x.reduced(456, 0);
        x.alike(4, 12);
        x.common(4, 12, 1);
        x.broken(0);
        x.might(3, -1);
        x.might(5, 3);
        x.undo(0);
        manyAre(x, 2, 2, 1, 4, 2);
        due("terms: RULE 0", x.ofRule(0, 0), 12);
        due("terms: CLAIM 3", x.ofClaim(3), 12);
        due("terms: CLAIM 5", x.ofClaim(5), NONE);
    }

    private static void objectsAreApart() {
        FirstSigns x = new FirstSigns();
        FirstSigns y = new FirstSigns();
        x.rule(0, 0, 1);
        x.claim(1, 1);
        due("terms: another object's RULES", y.many(0), 0);
        due("terms: another object's CLAIMS", y.many(1), 0);
        due("terms: another object's CHANGES", y.many(3), 0);
    }
}
