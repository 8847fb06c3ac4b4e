import static support.Boundaries.due;
import static support.Boundaries.ofOneDigit;
import static support.Boundaries.refusesNoRows;
import static support.Boundaries.takesRows;

import java.io.IOException;
import java.util.Arrays;
import support.Boundaries;
import support.Boundaries.Says;

/** The boundary cases that the document's terms name, a test for each sentence. */
public final class TermsBoundariesTest {
    private static final int UNKNOWN = -1;
    private static final int OUTSIDE = -2;
    private static final int NONE = -9;
    private static final long LOST = Long.MIN_VALUE;

    private static final int[] NO_SIGNS = {-1, -2, -9, 6, 7, Integer.MIN_VALUE, Integer.MAX_VALUE};
    private static final int[] NO_LETTERS = {-1, -2, -9, 3, 4, Integer.MIN_VALUE, Integer.MAX_VALUE};

    public static void main(String[] args) throws IOException {
        Boundaries.run(TermsBoundariesTest.class, Boundaries.TERMS);
    }

    private static String state(FirstSigns x) {
        return Boundaries.state(x::ofRule, x::ofClaim, x::many);
    }

    // ---- refusals

    @Says("REFUSALS: of a call's line the first that fits is answered, in the order told there:")
    static void termsTheFirstRefusalIsAnswered() {
        FirstSigns x = new FirstSigns();
        due("rule, no SIGN and no ROW", x.rule(6, 0, 7), UNKNOWN);
        due("rule, no LETTER and no ROW", x.rule(0, 3, 7), UNKNOWN);
        due("rule, nothing fits", x.rule(-1, -1, -1), UNKNOWN);
        due("claim, no SIGN and no ROW", x.claim(6, 7), UNKNOWN);
        due("claim, no SIGN and the empty ROW", x.claim(-1, 0), UNKNOWN);
        due("might, no SIGN and k below", x.might(6, -2), UNKNOWN);
        due("might, no SIGN and k least", x.might(-1, Integer.MIN_VALUE), UNKNOWN);
    }

    @Says({"UNKNOWN (there is no such SIGN, LETTER),", "SIGNS 0 .. 5,"})
    static void termsThereAreSixSigns() {
        for (int s : NO_SIGNS) {
            FirstSigns x = new FirstSigns();
            due("rule " + s, x.rule(s, 0, 1), UNKNOWN);
            due("rule away " + s, x.rule(s, 0, NONE), UNKNOWN);
            due("ofRule " + s, x.ofRule(s, 0), UNKNOWN);
            due("claim " + s, x.claim(s, 1), UNKNOWN);
            due("claim away " + s, x.claim(s, NONE), UNKNOWN);
            due("ofClaim " + s, x.ofClaim(s), UNKNOWN);
            due("might " + s, x.might(s, 0), UNKNOWN);
            due("might, how many " + s, x.might(s, -1), UNKNOWN);
        }
        for (int s = 0; s <= 5; s++) {
            FirstSigns x = new FirstSigns();
            due("rule " + s, x.rule(s, 0, 1), NONE);
            due("ofRule " + s, x.ofRule(s, 0), 1);
            due("claim " + s, x.claim(s, NONE), NONE);
            due("ofClaim " + s, x.ofClaim(s), NONE);
            due("might " + s, x.might(s, 999), NONE);
        }
    }

    @Says("LETTERS 0 .. 2.")
    static void termsThereAreThreeLetters() {
        for (int letter : NO_LETTERS) {
            FirstSigns x = new FirstSigns();
            due("rule " + letter, x.rule(0, letter, 1), UNKNOWN);
            due("rule of the last SIGN " + letter, x.rule(5, letter, 1), UNKNOWN);
            due("ofRule " + letter, x.ofRule(0, letter), UNKNOWN);
            due("ofRule of SIGN 1 " + letter, x.ofRule(1, letter), UNKNOWN);
        }
        for (int letter = 0; letter <= 2; letter++) {
            FirstSigns x = new FirstSigns();
            due("rule " + letter, x.rule(5, letter, 1), NONE);
            due("ofRule " + letter, x.ofRule(5, letter), 1);
        }
    }

    @Says("OUTSIDE (another number is not as told);")
    static void termsAnotherNumberIsOutside() {
        FirstSigns x = new FirstSigns();
        due("rule", x.rule(0, 0, 7), OUTSIDE);
        due("read, the ROW", x.read(7, 1, 0), OUTSIDE);
        due("read, the LETTERS", x.read(1, 4, 0), OUTSIDE);
        due("read, what", x.read(1, 1, 4), OUTSIDE);
        due("norm", x.norm(7), OUTSIDE);
        due("words", x.words(7, 1), OUTSIDE);
        due("words, n", x.words(1, 13), OUTSIDE);
        due("firsts", x.firsts(7), OUTSIDE);
        due("claim", x.claim(5, 7), OUTSIDE);
        due("reduced", x.reduced(7, 0), OUTSIDE);
        due("reduced, k", x.reduced(1, -2), OUTSIDE);
        due("alike", x.alike(1, 7), OUTSIDE);
        due("common", x.common(7, 1, 0), OUTSIDE);
        due("common, end", x.common(1, 1, 2), OUTSIDE);
        due("broken", x.broken(2), OUTSIDE);
        due("might, k", x.might(1, -2), OUTSIDE);
        due("undo", x.undo(1), OUTSIDE);
        due("many", x.many(5), OUTSIDE);
    }

    @Says("they change nothing.")
    static void termsRefusalsChangeNothing() {
        FirstSigns x = new FirstSigns();
        x.rule(0, 0, 12);
        x.rule(5, 2, 0);
        x.claim(1, 1);
        x.claim(5, 543);
        String before = state(x);
        refuseAll(x);
        due("all", state(x), before);
        due("what is kept", x.undo(4), 0);
        due("what was at first", state(x), state(new FirstSigns()));
    }

    @Says("they change nothing.")
    static void termsRefusalsDropNothingThatIsKept() {
        FirstSigns x = new FirstSigns();
        x.rule(3, 1, 4);
        for (int k = 0; k < 20; k++) {
            x.rule(3, 1, k % 6 + 1);
        }
        refuseAll(x);
        due("twenty are kept", x.undo(20), 0);
        due("what was ahead of them", x.ofRule(3, 1), 4);
    }

    private static void refuseAll(FirstSigns x) {
        x.rule(6, 0, 1);
        x.rule(0, 3, 1);
        x.rule(0, -1, 1);
        x.rule(0, 0, 7);
        x.rule(0, 0, 1111);
        x.rule(5, 2, -1);
        x.claim(6, 1);
        x.claim(-1, NONE);
        x.claim(1, 2);
        x.claim(1, 0);
        x.claim(5, 1111);
        x.claim(0, 1);
        x.read(7, 0, 0);
        x.read(1, 4, 0);
        x.read(1, 1, 4);
        x.norm(7);
        x.least(7);
        x.words(1, 13);
        x.parts(1, 1, 2);
        x.firsts(7);
        x.reduced(1, -2);
        x.alike(7, 1);
        x.common(1, 1, 2);
        x.broken(2);
        x.might(6, 0);
        x.might(5, -2);
        x.undo(21);
        x.undo(-1);
        x.undo(Integer.MIN_VALUE);
        x.many(5);
    }

    @Says("NONE is -9.")
    static void termsNoneIsMinusNine() {
        due("NONE", FirstSigns.NONE, -9);
        due("UNKNOWN", FirstSigns.UNKNOWN, -1);
        due("OUTSIDE", FirstSigns.OUTSIDE, -2);
        FirstSigns x = new FirstSigns();
        due("ofRule", x.ofRule(0, 0), -9);
        due("norm", x.norm(1), -9);
        due("least", x.least(1), -9L);
        due("parts", x.parts(1, 1, 0), -9L);
    }

    @Says("LOST (where a long is told) stands for any refusal.")
    static void termsLostStandsForAnyRefusal() {
        due("LOST", FirstSigns.LOST, LOST);
        FirstSigns x = new FirstSigns();
        due("least", x.least(7), LOST);
        due("parts, a ROW", x.parts(7, 1, 0), LOST);
        due("parts, the other", x.parts(1, 7, 0), LOST);
        due("parts, how", x.parts(1, 1, 2), LOST);
        due("parts, all", x.parts(-1, -1, -1), LOST);
    }

    @Says("Sets are told as bits (bit k for SIGN k).")
    static void termsSetsAreBits() {
        int[] bits = {1, 2, 4, 8, 16, 32};
        for (int s = 0; s < 6; s++) {
            due("SIGN " + s, new FirstSigns().firsts(s + 1), bits[s]);
        }
    }

    @Says("All that is told is by how all is when it is asked.")
    static void termsAllIsToldAsItIsWhenAsked() {
        FirstSigns x = new FirstSigns();
        x.rule(0, 0, 0);
        x.claim(2, 12);
        due("at first", told(x), "[1, 1, 0, 1, 1, 1, 2, 0, 2, 0, 7, 1]");
        x.rule(0, 0, 2);
        x.rule(1, 1, 0);
        x.rule(2, 0, 2);
        x.claim(2, 1);
        due("after CHANGES", told(x), "[2, 12, 1, 12, 2, 3, 1, 1, 1, -9, 1, 3]");
        x.undo(4);
        due("when they are undone", told(x), "[1, 1, 0, 1, 1, 1, 2, 0, 2, 0, 7, 1]");
    }

    private static String told(FirstSigns x) {
        return Arrays.toString(new long[] {
            x.norm(1), x.least(1), x.words(1, 2), x.parts(1, 11, 0), x.read(1, 12, 0), x.firsts(1),
            x.reduced(3, -1), x.alike(3, 1), x.common(3, 12, 0), x.broken(1), x.might(2, -1),
            x.many(2)});
    }

    // ---- 1

    @Says({"A ROW of SIGNS is told as a number:", "one digit 1 .. 6 for each"})
    static void termsDigitsOfARowAreOneToSix() {
        takesRows("rule", 3, row -> new FirstSigns().rule(0, 0, row), OUTSIDE);
        takesRows("read", 9, row -> new FirstSigns().read(row, 0, 0), OUTSIDE);
        takesRows("norm", 9, row -> new FirstSigns().norm(row), OUTSIDE);
        takesRows("least", 9, row -> new FirstSigns().least(row), LOST);
        takesRows("words", 9, row -> new FirstSigns().words(row, 0), OUTSIDE);
        takesRows("parts", 9, row -> new FirstSigns().parts(row, 0, 0), LOST);
        takesRows("parts, the other", 9, row -> new FirstSigns().parts(0, row, 0), LOST);
        takesRows("firsts", 9, row -> new FirstSigns().firsts(row), OUTSIDE);
        takesRows("reduced", 9, row -> new FirstSigns().reduced(row, -1), OUTSIDE);
        takesRows("alike", 9, row -> new FirstSigns().alike(row, 0), OUTSIDE);
        takesRows("alike, the other", 9, row -> new FirstSigns().alike(0, row), OUTSIDE);
        takesRows("common", 9, row -> new FirstSigns().common(row, 0, 0), OUTSIDE);
        takesRows("common, the other", 9, row -> new FirstSigns().common(0, row, 1), OUTSIDE);
    }

    @Says("one digit 1 .. 6 for each")
    static void termsOtherNumbersAreNoRows() {
        refusesNoRows("read", 9, row -> new FirstSigns().read(row, 0, 0), OUTSIDE);
        refusesNoRows("norm", 9, row -> new FirstSigns().norm(row), OUTSIDE);
        refusesNoRows("least", 9, row -> new FirstSigns().least(row), LOST);
        refusesNoRows("words", 9, row -> new FirstSigns().words(row, 0), OUTSIDE);
        refusesNoRows("parts", 9, row -> new FirstSigns().parts(row, 0, 0), LOST);
        refusesNoRows("parts, the other", 9, row -> new FirstSigns().parts(0, row, 1), LOST);
        refusesNoRows("firsts", 9, row -> new FirstSigns().firsts(row), OUTSIDE);
        refusesNoRows("reduced", 9, row -> new FirstSigns().reduced(row, 0), OUTSIDE);
        refusesNoRows("alike", 9, row -> new FirstSigns().alike(row, 0), OUTSIDE);
        refusesNoRows("alike, the other", 9, row -> new FirstSigns().alike(0, row), OUTSIDE);
        refusesNoRows("common", 9, row -> new FirstSigns().common(row, 0, 0), OUTSIDE);
        refusesNoRows("common, the other", 9, row -> new FirstSigns().common(0, row, 1), OUTSIDE);
    }

    @Says("(SIGN 0 is 1, SIGN 5 is 6),")
    static void termsDigitsAreOneAboveTheirSigns() {
        for (int s = 0; s < 6; s++) {
            due("of " + (s + 1), new FirstSigns().reduced(s + 1, 0), s);
            due("read of " + (s + 1), new FirstSigns().read(s + 1, 0, 2), s);
        }
    }

    @Says("the first SIGN the highest digit;")
    static void termsTheHighestDigitIsFirst() {
        FirstSigns x = new FirstSigns();
        due("first of 654321", x.read(654321, 0, 2), 5);
        due("first of 123456", x.read(123456, 0, 2), 0);
        for (int k = 0; k < 6; k++) {
            due("of 654321 the " + k, x.reduced(654321, k), 5 - k);
        }
        x.rule(0, 0, 234);
        due("of a RULE's ROW", x.read(1, 1, 2), 1);
    }

    @Says("0 is the empty ROW.")
    static void termsZeroIsTheEmptyRow() {
        FirstSigns x = new FirstSigns();
        due("SIGNS left", x.read(0, 0, 1), 0);
        due("no first SIGN", x.read(0, 0, 2), NONE);
        due("NORM", x.norm(0), 0);
        due("LEAST", x.least(0), 0);
        due("WORDS", x.words(0, 0), 1);
        due("firsts", x.firsts(0), 0);
        due("REDUCED", x.reduced(0, -1), 0);
        due("alike", x.alike(0, 0), 1);
        due("common", x.common(0, 0, 0), 0);
        due("parts", x.parts(0, 0, 0), NONE);
    }

    @Says("A row of LETTERS likewise, digits 1 .. 3 (LETTER 0 is 1).")
    static void termsDigitsOfLettersAreOneToThree() {
        for (int letter = 0; letter < 3; letter++) {
            FirstSigns x = new FirstSigns();
            x.rule(0, letter, 0);
            due("LETTER " + letter, x.read(1, letter + 1, 3), 1);
            due("least " + letter, x.least(1), letter + 1);
            due("parts " + letter, x.parts(1, 11, 0), letter + 1);
        }
        long unit = 1;
        for (int place = 0; place < 12; place++) {
            FirstSigns x = new FirstSigns();
            x.rule(0, 0, 1);
            for (int digit = 4; digit <= 9; digit++) {
                due("digit " + digit + " at " + place,
                        x.read(1, 111111111111L + (digit - 1) * unit, 0), OUTSIDE);
            }
            due("digit 0 at " + place, x.read(1, 1111111111111L - unit, 0), OUTSIDE);
            due("LETTER 2 at " + place, x.read(1, 111111111111L + 2 * unit, 0), 11 - place);
            unit *= 10;
        }
    }

    @Says("To each SIGN and LETTER there is a RULE, a ROW of 0 .. 3 SIGNS, or none (at first).")
    static void termsTheEmptyRuleIsNotNone() {
        FirstSigns x = new FirstSigns();
        due("none at first", x.ofRule(0, 0), NONE);
        due("none READS nothing", x.read(1, 1, 0), 0);
        x.rule(0, 0, 0);
        due("0 SIGNS", x.ofRule(0, 0), 0);
        due("0 SIGNS, read", x.read(1, 1, 0), 1);
        due("0 SIGNS, left", x.read(1, 1, 1), 0);
        x.rule(0, 0, 222);
        due("3 SIGNS", x.ofRule(0, 0), 222);
        due("3 SIGNS, left", x.read(1, 1, 1), 3);
        x.rule(0, 0, NONE);
        due("none READS nothing again", x.read(1, 1, 0), 0);
    }

    @Says("A ROW READS a LETTER, if its first SIGN has a RULE for it:")
    static void termsOnlyTheFirstSignReads() {
        FirstSigns x = new FirstSigns();
        x.rule(1, 0, 0);
        due("the second SIGN has the RULE", x.read(12, 1, 0), 0);
        due("the first SIGN has it", x.read(21, 1, 0), 1);
        due("another LETTER", x.read(21, 2, 0), 0);
    }

    @Says("that SIGN gives place to the RULE's ROW then.")
    static void termsTheRuleStandsInItsPlace() {
        FirstSigns x = new FirstSigns();
        x.rule(0, 0, 345);
        x.rule(2, 0, 0);
        x.rule(3, 0, 0);
        x.rule(4, 0, 0);
        due("ahead of what is behind", x.read(12, 1, 2), 2);
        due("then its second", x.read(12, 11, 2), 3);
        due("then its third", x.read(12, 111, 2), 4);
        due("then what was behind", x.read(12, 1111, 2), 1);
        due("how many are left", x.read(12, 1, 1), 4);
    }

    @Says("(The empty ROW READS none.)")
    static void termsTheEmptyRowReadsNone() {
        FirstSigns x = new FirstSigns();
        for (int s = 0; s < 6; s++) {
            for (int letter = 0; letter < 3; letter++) {
                x.rule(s, letter, 0);
            }
        }
        for (int letters = 1; letters <= 3; letters++) {
            due("read " + letters, x.read(0, letters, 0), 0);
            due("a WORD " + letters, x.read(0, letters, 3), 0);
            due("when it has come to be empty", x.read(1, 10 + letters, 0), 1);
        }
        due("WORDS", x.words(0, 1), 0);
    }

    @Says({"A WORD of a ROW: LETTERS that it READS, one behind another, so that nothing is left",
        "(the empty one of the empty ROW)."})
    static void termsAWordLeavesNothing() {
        FirstSigns x = new FirstSigns();
        x.rule(0, 0, 0);
        due("all read, nothing left", x.read(11, 11, 3), 1);
        due("a SIGN is left", x.read(11, 1, 3), 0);
        due("a LETTER is not read", x.read(11, 111, 3), 0);
        due("neither", x.read(11, 12, 3), 0);
        due("the empty one of the empty ROW", x.read(0, 0, 3), 1);
        due("the empty one of another ROW", x.read(1, 0, 3), 0);
    }

    @Says("NORM of a ROW: how many LETTERS its shortest WORD has;")
    static void termsNormIsOfTheShortestWord() {
        FirstSigns x = new FirstSigns();
        x.rule(0, 0, 11);
        x.rule(0, 1, 2);
        x.rule(1, 2, 0);
        due("shortest of endlessly many", x.norm(1), 2);
        x.rule(0, 2, 0);
        due("a shorter one", x.norm(1), 1);
    }

    @Says("LEAST: of all the shortest ones the first by LETTERS"
            + " (the lesser LETTER where they differ first).")
    static void termsLeastIsTheFirstByLetters() {
        FirstSigns x = new FirstSigns();
        x.rule(0, 1, 2);
        x.rule(0, 2, 3);
        x.rule(1, 2, 0);
        x.rule(2, 0, 0);
        due("the first LETTER goes ahead of the second", x.least(1), 23);
        x.rule(0, 0, 11);
        due("a longer one does not count", x.least(1), 23);
        x.rule(0, 0, 2);
        due("now as short", x.least(1), 13);
        x.rule(1, 0, 0);
        due("they differ in the last", x.least(1), 11);
    }

    // ---- 2

    @Says({"A CLAIM of a SIGN: a ROW of 1 to 3 SIGNS, each less than it;",
        "or it has none (at first)."})
    static void termsAClaimIsOfLesserSigns() {
        for (int s = 0; s < 6; s++) {
            due("none at first of " + s, new FirstSigns().ofClaim(s), NONE);
            due("no SIGN, of " + s, new FirstSigns().claim(s, 0), OUTSIDE);
            for (int length = 1; length <= 4; length++) {
                int greatest = s > 0 ? ofOneDigit(length, s) : 0;
                due("the greatest ones of " + length + " of " + s,
                        new FirstSigns().claim(s, greatest),
                        s == 0 || length == 4 ? OUTSIDE : NONE);
                due("itself, " + length + " of " + s,
                        new FirstSigns().claim(s, ofOneDigit(length, s + 1)), OUTSIDE);
            }
        }
    }

    @Says("each less than it;")
    static void termsAtNoPlaceOfAClaimIsTheSignItself() {
        for (int s = 1; s < 6; s++) {
            int own = s + 1;
            int[] rows = {own, 10 + own, own * 10 + 1, 110 + own, 101 + own * 10, own * 100 + 11};
            for (int row : rows) {
                due(row + " of " + s, new FirstSigns().claim(s, row), OUTSIDE);
            }
        }
    }

    @Says("A ROW is REDUCED: each SIGN that has a CLAIM gives place to it, again and again,"
            + " till none has one.")
    static void termsReducedTillNoSignHasAClaim() {
        FirstSigns x = new FirstSigns();
        x.claim(5, 5);
        x.claim(4, 4);
        x.claim(3, 3);
        x.claim(2, 2);
        due("four CLAIMS deep", x.reduced(6, 0), 1);
        x.claim(1, 1);
        due("five CLAIMS deep", x.reduced(6, 0), 0);
        x.claim(3, NONE);
        due("till none has one", x.reduced(6, 0), 3);
        due("no more than one SIGN", x.reduced(6, -1), 1);
        due("a ROW without a CLAIM stays", x.reduced(41, 0), 3);
    }

    @Says("A CLAIM is BROKEN by a LETTER, if of the SIGN (as a ROW of one) and the CLAIM's ROW"
            + " just one READS it,")
    static void termsBrokenIfJustOneReads() {
        FirstSigns x = new FirstSigns();
        x.claim(1, 1);
        due("neither READS", x.broken(0), NONE);
        x.rule(1, 0, 0);
        due("just the SIGN", x.broken(0), 1);
        x.rule(1, 0, NONE);
        x.rule(0, 0, 0);
        due("just the CLAIM's ROW", x.broken(0), 1);
        x.rule(1, 0, 0);
        due("both", x.broken(0), NONE);
    }

    @Says("or both do, and what is left of both is not REDUCED to the same.")
    static void termsBrokenIfNotReducedToTheSame() {
        FirstSigns x = new FirstSigns();
        x.claim(3, 12);
        x.rule(3, 0, 5);
        x.rule(0, 0, 3);
        due("SIGN 4 against SIGNS 2, 1", x.broken(0), 3);
        x.claim(4, 32);
        due("REDUCED to the same", x.broken(0), NONE);
        x.claim(4, 3);
        due("the shorter, the same beginning", x.broken(0), 3);
        x.claim(4, 2);
        due("the shorter, the same end", x.broken(0), 3);
        x.claim(4, 332);
        due("the longer", x.broken(0), 3);
        x.claim(4, 23);
        due("another order", x.broken(0), 3);
    }

    // ---- 3

    @Says("CHANGES: calls of rule(), claim(), settle() that are not refused"
            + " (also those that leave all as it was);")
    static void termsChangesAreCallsThatAreNotRefused() {
        FirstSigns x = new FirstSigns();
        x.rule(0, 0, NONE);
        due("rule, all as it was", x.many(3), 1);
        x.claim(0, NONE);
        due("claim, all as it was", x.many(3), 2);
        x.settle();
        due("settle, all as it was", x.many(3), 3);
        x.rule(0, 0, 12);
        x.rule(0, 0, 12);
        x.claim(1, 1);
        x.claim(1, 1);
        due("each counts", x.many(3), 7);
        refuseAll(x);
        due("refused ones do not", x.many(3), 7);
        askAll(x);
        due("asking is no CHANGE", x.many(3), 7);
        x.undo(0);
        due("nor is undo", x.many(3), 7);
        x.undo(1);
        due("undo takes one back", x.many(3), 6);
    }

    private static void askAll(FirstSigns x) {
        x.ofRule(0, 0);
        x.read(1, 1, 0);
        x.norm(1);
        x.least(1);
        x.words(1, 1);
        x.parts(1, 2, 0);
        x.firsts(1);
        x.ofClaim(1);
        x.reduced(1, 0);
        x.alike(1, 2);
        x.common(1, 2, 0);
        x.broken(0);
        x.might(5, 0);
        x.many(0);
    }

    @Says("what was ahead of the last 20 is kept.")
    static void termsTwentyAreKept() {
        FirstSigns x = new FirstSigns();
        for (int k = 1; k <= 19; k++) {
            x.claim(5, k % 5 + 1);
            due("kept after " + k, x.many(3), k);
        }
        x.claim(5, 11);
        due("kept after 20", x.many(3), 20);
        x.claim(5, 12);
        due("kept after 21", x.many(3), 20);
        due("all undone", x.undo(20), 0);
        due("what was ahead of the last 20", x.ofClaim(5), 2);
        due("the first is not kept", x.undo(1), OUTSIDE);
    }
}
