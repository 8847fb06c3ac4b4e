import static support.Boundaries.due;
import static support.Boundaries.refusesNoRows;
import static support.Boundaries.takesRows;

import java.io.IOException;
import support.Boundaries;
import support.Boundaries.Says;

/** The boundary cases that promises 1 to 9 name, a test for each sentence. */
public final class WordsBoundariesTest {
    private static final int UNKNOWN = -1;
    private static final int OUTSIDE = -2;
    private static final int NONE = -9;
    private static final long LOST = Long.MIN_VALUE;

    public static void main(String[] args) throws IOException {
        Boundaries.run(WordsBoundariesTest.class, "promise01", "promise02", "promise03",
                "promise04", "promise05", "promise06", "promise07", "promise08", "promise09");
    }

    /** SIGN 0 goes by LETTER 0. */
    private static FirstSigns goes() {
        FirstSigns x = new FirstSigns();
        x.rule(0, 0, 0);
        return x;
    }

    /** Each SIGN has the same RULE for all LETTERS. */
    private static FirstSigns byAllLetters(int... rows) {
        FirstSigns x = new FirstSigns();
        for (int s = 0; s < rows.length; s++) {
            for (int letter = 0; letter < 3; letter++) {
                x.rule(s, letter, rows[s]);
            }
        }
        return x;
    }

    // ---- promise 1

    @Says("No RULES, no CLAIMS.")
    static void promise01ANewObjectIsEmpty() {
        FirstSigns x = new FirstSigns();
        for (int s = 0; s < 6; s++) {
            for (int letter = 0; letter < 3; letter++) {
                due("RULE", x.ofRule(s, letter), NONE);
            }
            due("CLAIM", x.ofClaim(s), NONE);
        }
        for (int what = 0; what <= 4; what++) {
            due("many " + what, x.many(what), 0);
        }
        due("nothing is kept", x.undo(0), 0);
        due("nothing to undo", x.undo(1), OUTSIDE);
    }

    @Says("No RULES, no CLAIMS.")
    static void promise01ANewObjectIsEmptyBesideAFullOne() {
        FirstSigns full = byAllLetters(111, 222, 333, 444, 555, 666);
        full.claim(5, 1);
        FirstSigns x = new FirstSigns();
        due("RULES", x.many(0), 0);
        due("CLAIMS", x.many(1), 0);
        due("CHANGES", x.many(3), 0);
        due("the other's RULES", full.many(0), 18);
    }

    // ---- promise 2

    @Says("The RULE of a SIGN for a LETTER becomes a ROW")
    static void promise02EveryRowOfUpToThreeSignsAndNoOtherNumber() {
        for (int row = -1000; row <= 10000; row++) {
            boolean fine = row == 0 || row == NONE || String.valueOf(row).matches("[1-6]{1,3}");
            FirstSigns x = new FirstSigns();
            due("rule(2, 1, " + row + ")", x.rule(2, 1, row), fine ? NONE : OUTSIDE);
            due("it stands, " + row, x.ofRule(2, 1), fine ? row : NONE);
        }
    }

    @Says("The RULE of a SIGN for a LETTER becomes a ROW")
    static void promise02NoOtherRuleChanges() {
        for (int s = 0; s < 6; s++) {
            for (int letter = 0; letter < 3; letter++) {
                FirstSigns x = byAllLetters(1, 1, 1, 1, 1, 1);
                x.rule(s, letter, 234);
                for (int place = 0; place < 18; place++) {
                    due("RULE " + place, x.ofRule(place / 3, place % 3),
                            place == s * 3 + letter ? 234 : 1);
                }
            }
        }
    }

    @Says("(NONE: there is none):")
    static void promise02NoneTakesTheRuleAway() {
        FirstSigns x = goes();
        due("what it was", x.rule(0, 0, NONE), 0);
        due("there is none", x.ofRule(0, 0), NONE);
        due("no RULES", x.many(0), 0);
        due("taken away again", x.rule(0, 0, NONE), NONE);
        due("both are CHANGES", x.many(3), 3);
    }

    @Says("what it was.")
    static void promise02AnswersWhatItWas() {
        FirstSigns x = new FirstSigns();
        due("none", x.rule(5, 2, 0), NONE);
        due("the empty ROW", x.rule(5, 2, 666), 0);
        due("the last ROW of three", x.rule(5, 2, 666), 666);
        due("the same again", x.rule(5, 2, 1), 666);
        due("one SIGN", x.rule(5, 2, NONE), 1);
    }

    @Says("UNKNOWN;")
    static void promise02UnknownSignOrLetter() {
        int[][] unknown = {{-1, 0}, {6, 0}, {0, -1}, {0, 3}, {5, 3}, {6, 2}, {-1, 3}, {6, -1},
            {Integer.MIN_VALUE, 0}, {Integer.MAX_VALUE, 2}, {0, Integer.MIN_VALUE},
            {5, Integer.MAX_VALUE}};
        FirstSigns x = new FirstSigns();
        for (int[] at : unknown) {
            due("rule at " + at[0] + ", " + at[1], x.rule(at[0], at[1], 1), UNKNOWN);
            due("no ROW at " + at[0] + ", " + at[1], x.rule(at[0], at[1], 7), UNKNOWN);
            due("away at " + at[0] + ", " + at[1], x.rule(at[0], at[1], NONE), UNKNOWN);
        }
        due("no RULES", x.many(0), 0);
        due("no CHANGES", x.many(3), 0);
    }

    @Says("OUTSIDE: it is no ROW of 3 SIGNS at most.")
    static void promise02FourSignsAreOutside() {
        FirstSigns x = goes();
        for (int row : Boundaries.noRows(3)) {
            if (row != NONE) {
                due("rule of " + row, x.rule(0, 0, row), OUTSIDE);
            }
        }
        due("it stays", x.ofRule(0, 0), 0);
        due("no CHANGES", x.many(3), 1);
    }

    // ---- promise 3

    @Says("The RULE of a SIGN for a LETTER")
    static void promise03EachHasItsOwn() {
        FirstSigns x = new FirstSigns();
        for (int place = 0; place < 18; place++) {
            x.rule(place / 3, place % 3, 111 + place / 3 * 10 + place % 3);
        }
        for (int place = 0; place < 18; place++) {
            due("RULE " + place, x.ofRule(place / 3, place % 3), 111 + place / 3 * 10 + place % 3);
        }
    }

    @Says("(NONE: there is none).")
    static void promise03NoneIsNotTheEmptyRow() {
        FirstSigns x = goes();
        due("the empty ROW", x.ofRule(0, 0), 0);
        due("none for another LETTER", x.ofRule(0, 1), NONE);
        due("none for another SIGN", x.ofRule(1, 0), NONE);
        due("none at the end", x.ofRule(5, 2), NONE);
    }

    @Says("UNKNOWN.")
    static void promise03UnknownSignOrLetter() {
        // Were SIGN and LETTER only joined to a place, some of these would hit another RULE.
        FirstSigns x = byAllLetters(1, 1, 1, 1, 1, 1);
        int[][] unknown = {{-1, 0}, {-1, 3}, {6, 0}, {6, -1}, {0, -1}, {0, 3}, {1, -1}, {5, 3},
            {Integer.MIN_VALUE, Integer.MIN_VALUE}, {Integer.MAX_VALUE, Integer.MAX_VALUE},
            {1 << 30, 0}, {0, 1 << 31}};
        for (int[] at : unknown) {
            due("ofRule at " + at[0] + ", " + at[1], x.ofRule(at[0], at[1]), UNKNOWN);
        }
    }

    // ---- promise 4

    @Says("A ROW (9 SIGNS at most)")
    static void promise04NineSigns() {
        due("nine", goes().read(111111111, 111111111L, 3), 1);
        due("nine, left at first", goes().read(111111111, 0, 1), 9);
        due("ten", goes().read(1111111111, 0, 0), OUTSIDE);
        takesRows("read", 9, row -> goes().read(row, 1, 0), OUTSIDE);
    }

    @Says("READS a row of LETTERS (12 at most)")
    static void promise04TwelveLetters() {
        FirstSigns x = new FirstSigns();
        x.rule(0, 0, 1);
        x.rule(0, 2, 1);
        due("none", x.read(1, 0, 0), 0);
        due("twelve", x.read(1, 111111111111L, 0), 12);
        due("twelve of the last", x.read(1, 333333333333L, 0), 12);
        due("thirteen", x.read(1, 1111111111111L, 0), OUTSIDE);
        due("thirteen of the last", x.read(1, 3333333333333L, 0), OUTSIDE);
        due("nineteen", x.read(1, 1111111111111111111L, 0), OUTSIDE);
    }

    @Says("one by one, till it can't:")
    static void promise04NothingIsReadBehindALetterThatIsNot() {
        FirstSigns x = new FirstSigns();
        x.rule(0, 0, 1);
        x.rule(0, 2, 0);
        due("the second is not read", x.read(1, 1211, 0), 1);
        due("the first is not", x.read(1, 2111, 0), 0);
        due("the last is not", x.read(1, 1112, 0), 3);
        due("nothing is left to read by", x.read(1, 1311, 0), 2);
        due("from the highest digit on", x.read(1, 31, 0), 1);
    }

    @Says("how many it READS (what 0),")
    static void promise04HowManyItReads() {
        due("none of none", goes().read(1, 0, 0), 0);
        due("none, by the empty ROW", goes().read(0, 1, 0), 0);
        due("none, without a RULE", goes().read(2, 1, 0), 0);
        due("all", goes().read(111, 111, 0), 3);
        due("not those behind the end", goes().read(111, 1111, 0), 3);
    }

    @Says("how many SIGNS are left then (1),")
    static void promise04HowManySignsAreLeft() {
        due("none of none", goes().read(0, 0, 1), 0);
        due("none of nine", goes().read(111111111, 111111111L, 1), 0);
        due("all, as none is read", goes().read(222222222, 1, 1), 9);
        due("what stood when it could not", goes().read(1211, 111, 1), 3);
        FirstSigns x = new FirstSigns();
        x.rule(5, 2, 666);
        due("as many as can be", x.read(666666666, 333333333333L, 1), 33);
    }

    @Says("the first of these (2; NONE),")
    static void promise04TheFirstThatIsLeft() {
        due("none of none", goes().read(0, 0, 2), NONE);
        due("none, all are gone", goes().read(11, 11, 2), NONE);
        due("none, LETTERS are", goes().read(11, 111, 2), NONE);
        due("SIGN 0", goes().read(11, 1, 2), 0);
        due("SIGN 5", goes().read(16, 1, 2), 5);
        FirstSigns x = new FirstSigns();
        x.rule(4, 2, 645);
        x.rule(5, 2, 555);
        due("of as many as can be", x.read(555555555, 333333333333L, 2), 4);
    }

    @Says("whether the row is a WORD of it (3; 1, 0).")
    static void promise04WhetherItIsAWord() {
        due("the empty one", goes().read(0, 0, 3), 1);
        due("the empty one of SIGN 0", goes().read(1, 0, 3), 0);
        due("too short", goes().read(111, 11, 3), 0);
        due("just it", goes().read(111, 111, 3), 1);
        due("too long", goes().read(111, 1111, 3), 0);
        due("the empty ROW, a LETTER", goes().read(0, 1, 3), 0);
        FirstSigns x = new FirstSigns();
        x.rule(0, 0, 111);
        x.rule(0, 2, 0);
        due("twelve LETTERS, a SIGN is left", x.read(1111, 111333333333L, 3), 0);
        due("twelve LETTERS, one is left", x.read(11, 111333333333L, 3), 0);
        due("a WORD of ten", x.read(1, 1113333333L, 3), 1);
        due("a WORD of twelve", x.read(111, 111333333333L, 3), 1);
    }

    @Says("OUTSIDE: the ROW, the row, what.")
    static void promise04OutsideTheRow() {
        refusesNoRows("read", 9, row -> goes().read(row, 1, 0), OUTSIDE);
    }

    @Says("OUTSIDE: the ROW, the row, what.")
    static void promise04OutsideTheLetters() {
        long[] none = {-1, -9, -11, -111111111111L, 4, 9, 10, 14, 41, 101, 110, 1001,
            Long.MIN_VALUE, Long.MIN_VALUE + 1, Long.MAX_VALUE, Integer.MAX_VALUE,
            Integer.MIN_VALUE, 1000000000000L, 111111111110L, 411111111111L, 101111111111L};
        for (long letters : none) {
            due("read " + letters, goes().read(111, letters, 0), OUTSIDE);
        }
        // Cut to 32 bits these would be rows of LETTERS.
        for (long high = 1; high < 40; high++) {
            due("high " + high, goes().read(111, (high << 32) + 111, 0), OUTSIDE);
            due("low " + high, goes().read(111, 111 - (high << 32), 0), OUTSIDE);
        }
    }

    @Says("OUTSIDE: the ROW, the row, what.")
    static void promise04OutsideWhat() {
        int[] outside = {-1, 4, 5, -9, Integer.MIN_VALUE, Integer.MAX_VALUE};
        for (int what : outside) {
            due("what " + what, goes().read(1, 1, what), OUTSIDE);
        }
    }

    // ---- promise 5

    @Says("NORM of a ROW (9 SIGNS at most);")
    static void promise05FromNothingToTheLongest() {
        due("the empty ROW", new FirstSigns().norm(0), 0);
        due("one LETTER", goes().norm(1), 1);
        due("nine SIGNS", goes().norm(111111111), 9);
        due("ten", goes().norm(1111111111), OUTSIDE);
        due("the longest", byAllLetters(0, 111, 222, 333, 444, 555).norm(666666666), 3276);
        due("the longest, turned", byAllLetters(222, 333, 444, 555, 666, 0).norm(111111111), 3276);
    }

    @Says("NONE: it has no WORD.")
    static void promise05NoWord() {
        due("no RULES", new FirstSigns().norm(1), NONE);
        due("no RULES, nine SIGNS", new FirstSigns().norm(666666666), NONE);
        due("the first has none", goes().norm(211111111), NONE);
        due("the last has none", goes().norm(111111112), NONE);
        due("gives place to itself", byAllLetters(1).norm(1), NONE);
        due("grows", byAllLetters(111).norm(1), NONE);
        due("a ring of six", byAllLetters(2, 3, 4, 5, 6, 1).norm(1), NONE);
        FirstSigns x = byAllLetters(2, 3, 4, 5, 6, 1);
        x.rule(5, 2, 0);
        due("the ring has an end", x.norm(1), 6);
        due("from that end on", x.norm(6), 1);
        x.rule(5, 2, NONE);
        due("it has none again", x.norm(1), NONE);
    }

    @Says("OUTSIDE.")
    static void promise05Outside() {
        refusesNoRows("norm", 9, row -> goes().norm(row), OUTSIDE);
    }

    // ---- promise 6

    @Says("LEAST of a ROW (9 SIGNS at most);")
    static void promise06NineSigns() {
        due("the empty ROW", new FirstSigns().least(0), 0);
        due("nine SIGNS", goes().least(111111111), 111111111L);
        FirstSigns x = goes();
        x.rule(5, 2, 0);
        due("each its own", x.least(616161616), 313131313L);
        due("ten", goes().least(1111111111), LOST);
        takesRows("least", 9, row -> goes().least(row), LOST);
    }

    @Says("-9: it has no WORD,")
    static void promise06NoWord() {
        due("no RULES", new FirstSigns().least(1), NONE);
        due("the first has none", goes().least(211111111), NONE);
        due("the last has none", goes().least(111111112), NONE);
        due("a ring", byAllLetters(2, 1).least(1), NONE);
    }

    @Says("or NORM is above 12.")
    static void promise06NormOfTwelveAndThirteen() {
        FirstSigns x = goes();
        x.rule(1, 2, 11);
        x.rule(2, 1, 1);
        due("NORM 12", x.norm(2222), 12);
        due("LEAST of twelve LETTERS", x.least(2222), 311311311311L);
        due("LEAST of twelve, nine SIGNS", x.least(333111111), 212121111111L);
        due("NORM 13", x.norm(22221), 13);
        due("LEAST of thirteen LETTERS", x.least(22221), NONE);
        due("LEAST of thirteen, nine SIGNS", x.least(333311111), NONE);
        due("the longest", byAllLetters(0, 111, 222, 333, 444, 555).least(666666666), NONE);
        FirstSigns y = new FirstSigns();
        y.rule(3, 2, 0);
        y.rule(4, 2, 444);
        due("the last twelve LETTERS", y.least(555), 333333333333L);
    }

    @Says("LOST: OUTSIDE.")
    static void promise06Lost() {
        refusesNoRows("least", 9, row -> goes().least(row), LOST);
    }

    // ---- promise 7

    @Says("How many WORDS of n LETTERS (0 .. 12)")
    static void promise07FromNoneToTwelveLetters() {
        FirstSigns x = byAllLetters(1);
        x.rule(0, 2, 0);
        int want = 1;
        due("none of no LETTERS", x.words(1, 0), 0);
        for (int n = 1; n <= 12; n++) {
            due("of " + n, x.words(1, n), want);
            want *= 2;
        }
        due("thirteen", x.words(1, 13), OUTSIDE);
        due("the empty one", x.words(0, 0), 1);
        due("no other of the empty ROW", x.words(0, 12), 0);
    }

    @Says("How many WORDS of n LETTERS (0 .. 12)")
    static void promise07AskedInAnyOrder() {
        // A count found for more LETTERS, or by other RULES, must not be left over.
        FirstSigns x = byAllLetters(0, 11);
        due("twelve", x.words(2, 12), 0);
        due("three", x.words(2, 3), 27);
        due("two", x.words(2, 2), 0);
        x.rule(0, 0, NONE);
        due("three, a RULE less", x.words(2, 3), 12);
        due("one, a RULE less", x.words(1, 1), 2);
    }

    @Says("a ROW (9 SIGNS at most) has.")
    static void promise07OfEachSignAndByEachLetter() {
        for (int s = 0; s < 6; s++) {
            for (int letter = 0; letter < 3; letter++) {
                FirstSigns x = new FirstSigns();
                x.rule(s, letter, 0);
                due("of SIGN " + s + " by " + letter, x.words(s + 1, 1), 1);
                due("of nine of SIGN " + s, x.words((s + 1) * 111111111, 9), 1);
            }
        }
    }

    @Says("a ROW (9 SIGNS at most) has.")
    static void promise07AsManyAsCanBe() {
        due("all of nine LETTERS", byAllLetters(0).words(111111111, 9), 19683);
        due("none of eight", byAllLetters(0).words(111111111, 8), 0);
        due("none of ten", byAllLetters(0).words(111111111, 10), 0);
        due("all of twelve LETTERS", byAllLetters(0, 1).words(222111111, 12), 531441);
        due("no RULES", new FirstSigns().words(1, 12), 0);
        due("a SIGN without a WORD", goes().words(112, 3), 0);
        due("ten SIGNS", goes().words(1111111111, 10), OUTSIDE);
    }

    @Says("OUTSIDE.")
    static void promise07Outside() {
        refusesNoRows("words", 9, row -> goes().words(row, 1), OUTSIDE);
        int[] outside = {-1, -9, 13, 14, Integer.MIN_VALUE, Integer.MAX_VALUE};
        for (int n : outside) {
            due("n " + n, goes().words(1, n), OUTSIDE);
            due("n " + n + " of the empty ROW", goes().words(0, n), OUTSIDE);
        }
    }

    // ---- promise 8

    private static void partsBoth(FirstSigns x, int row, int other, int how, long want) {
        due("parts(" + row + ", " + other + ", " + how + ")", x.parts(row, other, how), want);
        due("parts(" + other + ", " + row + ", " + how + ")", x.parts(other, row, how), want);
    }

    @Says("The shortest row of at most 6 LETTERS")
    static void promise08SixLettersAreEnoughSevenAreNot() {
        partsBoth(goes(), 0, 1, 0, 0);
        partsBoth(goes(), 111111, 1111111, 0, 111111);
        partsBoth(goes(), 1111111, 11111111, 0, NONE);
        partsBoth(goes(), 11111, 111111, 1, 111111);
        partsBoth(goes(), 111111, 1111111, 1, NONE);
        FirstSigns x = new FirstSigns();
        x.rule(5, 2, 0);
        partsBoth(x, 666666, 6666666, 0, 333333);
        partsBoth(x, 66666, 666666, 1, 333333);
        partsBoth(x, 666666, 6666666, 1, NONE);
    }

    @Says("The shortest row of at most 6 LETTERS")
    static void promise08TheShorterGoesAheadOfTheLesser() {
        FirstSigns x = new FirstSigns();
        x.rule(0, 2, 2);
        x.rule(1, 2, 0);
        x.rule(2, 0, 45);
        x.rule(3, 0, 0);
        x.rule(4, 0, 0);
        partsBoth(x, 1, 3, 0, 33);
        partsBoth(x, 2, 3, 0, 3);
    }

    @Says("that just one of two ROWS (9 SIGNS at most each) has as a WORD (how 0),")
    static void promise08JustOneHasTheWord() {
        partsBoth(goes(), 1, 1, 0, NONE);
        partsBoth(goes(), 1, 2, 0, 1);
        partsBoth(goes(), 2, 3, 0, NONE);
        partsBoth(goes(), 0, 2, 0, 0);
        FirstSigns x = goes();
        x.rule(1, 0, 0);
        x.rule(1, 1, 0);
        partsBoth(x, 1, 2, 0, 2);
        partsBoth(x, 111111111, 222222222, 0, NONE);
        x.rule(2, 0, 3);
        // Both READ LETTER 0 for ever, but only one of them has it as a WORD.
        partsBoth(x, 1, 3, 0, 1);
    }

    @Says("that just one of them READS to its end (1);")
    static void promise08JustOneReadsToItsEnd() {
        partsBoth(goes(), 0, 2, 1, NONE);
        partsBoth(goes(), 0, 1, 1, 1);
        partsBoth(goes(), 1, 12, 1, NONE);
        partsBoth(goes(), 1, 11, 1, 11);
        partsBoth(goes(), 211111111, 111111111, 1, 1);
        partsBoth(goes(), 111111111, 111111112, 1, NONE);
    }

    @Says("of several the first by LETTERS;")
    static void promise08OfSeveralTheFirst() {
        FirstSigns x = byAllLetters(0, 1);
        partsBoth(x, 1, 0, 1, 1);
        partsBoth(x, 2, 222, 0, 11);
        x.rule(2, 0, 1);
        x.rule(2, 2, 1);
        partsBoth(x, 3, 2, 0, 21);
        partsBoth(x, 3, 2, 1, 2);
        x.rule(1, 0, NONE);
        partsBoth(x, 2, 6, 0, 21);
        x.rule(1, 1, NONE);
        partsBoth(x, 2, 6, 0, 31);
    }

    @Says("-9: there is none.")
    static void promise08ThereIsNone() {
        partsBoth(new FirstSigns(), 0, 0, 0, NONE);
        partsBoth(new FirstSigns(), 0, 0, 1, NONE);
        partsBoth(new FirstSigns(), 1, 666666666, 0, NONE);
        partsBoth(new FirstSigns(), 1, 666666666, 1, NONE);
        partsBoth(byAllLetters(1, 22), 1, 2, 0, NONE);
        partsBoth(byAllLetters(1, 22), 1, 2, 1, NONE);
    }

    @Says("LOST: OUTSIDE: a ROW, how.")
    static void promise08Lost() {
        refusesNoRows("parts", 9, row -> goes().parts(row, 1, 0), LOST);
        refusesNoRows("parts, the other", 9, row -> goes().parts(1, row, 1), LOST);
        int[] outside = {-1, 2, 3, -9, Integer.MIN_VALUE, Integer.MAX_VALUE};
        for (int how : outside) {
            due("how " + how, goes().parts(1, 11, how), LOST);
        }
    }

    // ---- promise 9

    @Says("Which SIGNS are ever the first,")
    static void promise09FromNoneToAll() {
        due("the empty ROW", new FirstSigns().firsts(0), 0);
        due("the empty ROW, with RULES", byAllLetters(2, 3, 4, 5, 6, 1).firsts(0), 0);
        due("all by a ring", byAllLetters(2, 3, 4, 5, 6, 1).firsts(4), 63);
        due("all by a ring, turned", byAllLetters(6, 1, 2, 3, 4, 5).firsts(3), 63);
        due("all, as they go", byAllLetters(0, 0, 0, 0, 0, 0).firsts(123456), 63);
        due("just the last", byAllLetters(0, 0, 0, 0, 0, 6).firsts(6), 32);
    }

    @Says("as a ROW (9 SIGNS at most)")
    static void promise09TheNinthOfNine() {
        due("the ninth", goes().firsts(111111116), 33);
        due("the eighth stays", goes().firsts(111111126), 3);
        due("the first stays", goes().firsts(611111112), 32);
        due("ten", goes().firsts(1111111111), OUTSIDE);
        takesRows("firsts", 9, row -> goes().firsts(row), OUTSIDE);
    }

    @Says("READS all that it can, as a set.")
    static void promise09BehindASignWithoutAWord() {
        FirstSigns x = new FirstSigns();
        due("no RULES", x.firsts(16), 1);
        x.rule(0, 0, 12);
        due("it never goes", x.firsts(16), 1);
        x.rule(0, 1, 0);
        due("it goes, SIGN 1 stays", x.firsts(16), 35);
        x.rule(1, 2, 3);
        due("SIGN 2 in place of it", x.firsts(16), 39);
        x.rule(0, 1, NONE);
        due("it never goes again", x.firsts(16), 1);
    }

    @Says("OUTSIDE.")
    static void promise09Outside() {
        refusesNoRows("firsts", 9, row -> goes().firsts(row), OUTSIDE);
    }
}
