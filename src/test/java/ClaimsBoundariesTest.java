import static support.Boundaries.due;
import static support.Boundaries.refusesNoRows;
import static support.Boundaries.takesRows;

import java.io.IOException;
import support.Boundaries;
import support.Boundaries.Says;

/** The boundary cases that promises 10 to 17 name, a test for each sentence. */
public final class ClaimsBoundariesTest {
    private static final int UNKNOWN = -1;
    private static final int OUTSIDE = -2;
    private static final int NONE = -9;

    private static final int[] NO_SIGNS = {-1, -2, -9, 6, 7, Integer.MIN_VALUE, Integer.MAX_VALUE};

    public static void main(String[] args) throws IOException {
        Boundaries.run(ClaimsBoundariesTest.class, "promise10", "promise11", "promise12",
                "promise13", "promise14", "promise15", "promise16", "promise17");
    }

    private static FirstSigns claims(int... rows) {
        FirstSigns x = new FirstSigns();
        for (int k = 0; k < rows.length; k++) {
            x.claim(k + 1, rows[k]);
        }
        return x;
    }

    /** Each SIGN is claimed to be three of the one below it: REDUCED it is as long as can be. */
    private static FirstSigns longest() {
        return claims(111, 222, 333, 444, 555);
    }

    /** The same, with RULES by which only the first CLAIM is BROKEN, and the next without it. */
    private static FirstSigns tower() {
        FirstSigns x = longest();
        x.rule(0, 0, 0);
        for (int s = 1; s < 6; s++) {
            x.rule(s, 0, 111 * s);
        }
        return x;
    }

    // ---- promise 10

    @Says("The CLAIM of a SIGN becomes a ROW")
    static void promise10EveryRowOfLesserSignsAndNoOtherNumber() {
        for (int s = 0; s < 6; s++) {
            String lesser = s == 0 ? "none" : "[1-" + s + "]{1,3}";
            for (int row = -1000; row <= 10000; row++) {
                boolean fine = row == NONE || String.valueOf(row).matches(lesser);
                FirstSigns x = new FirstSigns();
                due("claim(" + s + ", " + row + ")", x.claim(s, row), fine ? NONE : OUTSIDE);
                due("it stands, " + s + ", " + row, x.ofClaim(s), fine ? row : NONE);
            }
        }
    }

    @Says("The CLAIM of a SIGN becomes a ROW")
    static void promise10NoOtherClaimChanges() {
        for (int s = 1; s < 6; s++) {
            FirstSigns x = claims(1, 1, 1, 1, 1);
            x.claim(s, 11);
            due("of SIGN 0", x.ofClaim(0), NONE);
            for (int other = 1; other < 6; other++) {
                due("of SIGN " + other, x.ofClaim(other), other == s ? 11 : 1);
            }
        }
    }

    @Says("(NONE: it has none):")
    static void promise10NoneTakesTheClaimAway() {
        FirstSigns x = claims(111);
        due("what it was", x.claim(1, NONE), 111);
        due("it has none", x.ofClaim(1), NONE);
        due("no CLAIMS", x.many(1), 0);
        due("taken away again", x.claim(1, NONE), NONE);
        due("SIGN 0, which never has one", x.claim(0, NONE), NONE);
        due("all are CHANGES", x.many(3), 4);
    }

    @Says("what it was.")
    static void promise10AnswersWhatItWas() {
        FirstSigns x = new FirstSigns();
        due("none", x.claim(5, 1), NONE);
        due("the least", x.claim(5, 555), 1);
        due("the greatest", x.claim(5, 555), 555);
        due("the same again", x.claim(5, 12), 555);
        due("then away", x.claim(5, NONE), 12);
    }

    @Says("UNKNOWN;")
    static void promise10UnknownSign() {
        FirstSigns x = new FirstSigns();
        for (int s : NO_SIGNS) {
            due("claim of " + s, x.claim(s, 1), UNKNOWN);
            due("claim of none, " + s, x.claim(s, NONE), UNKNOWN);
            due("claim of no ROW, " + s, x.claim(s, 0), UNKNOWN);
        }
        due("no CHANGES", x.many(3), 0);
    }

    @Says("OUTSIDE: it is no ROW as told.")
    static void promise10Outside() {
        FirstSigns x = claims(NONE, NONE, NONE, NONE, 5);
        for (int row : Boundaries.noRows(3)) {
            if (row != NONE) {
                due("claim of " + row, x.claim(5, row), OUTSIDE);
            }
        }
        due("the empty ROW", x.claim(5, 0), OUTSIDE);
        due("itself", x.claim(5, 6), OUTSIDE);
        due("a greater one", x.claim(4, 6), OUTSIDE);
        due("SIGN 0 of SIGN 0", x.claim(0, 1), OUTSIDE);
        due("it stays", x.ofClaim(5), 5);
        due("no CHANGES", x.many(3), 5);
    }

    // ---- promise 11

    @Says("The CLAIM of a SIGN")
    static void promise11EachHasItsOwn() {
        FirstSigns x = claims(111, 22, 3, 123, 543);
        int[] want = {NONE, 111, 22, 3, 123, 543};
        for (int s = 0; s < 6; s++) {
            due("of SIGN " + s, x.ofClaim(s), want[s]);
        }
    }

    @Says("(NONE: it has none).")
    static void promise11None() {
        for (int s = 0; s < 6; s++) {
            due("of SIGN " + s, new FirstSigns().ofClaim(s), NONE);
        }
        due("between two that have", claims(1, NONE, 1).ofClaim(2), NONE);
    }

    @Says("UNKNOWN.")
    static void promise11Unknown() {
        for (int s : NO_SIGNS) {
            due("of " + s, longest().ofClaim(s), UNKNOWN);
        }
    }

    // ---- promise 12

    private static void reducedTo(FirstSigns x, int row, int... signs) {
        due("how many of " + row, x.reduced(row, -1), signs.length);
        for (int k = 0; k < signs.length; k++) {
            due("of " + row + " the " + k, x.reduced(row, k), signs[k]);
        }
        due("of " + row + " no more", x.reduced(row, signs.length), NONE);
    }

    @Says("A ROW (9 SIGNS at most) REDUCED:")
    static void promise12NineSigns() {
        reducedTo(new FirstSigns(), 312345631, 2, 0, 1, 2, 3, 4, 5, 2, 0);
        reducedTo(claims(NONE, 21), 312345631, 1, 0, 0, 1, 1, 0, 3, 4, 5, 1, 0, 0);
        reducedTo(claims(1, 21), 312345631, 0, 0, 0, 0, 0, 0, 3, 4, 5, 0, 0, 0);
        due("ten", claims(1).reduced(1111111111, -1), OUTSIDE);
        takesRows("reduced", 9, row -> longest().reduced(row, -1), OUTSIDE);
    }

    @Says("how many SIGNS (k -1),")
    static void promise12FromNoneToTheLongest() {
        due("the empty ROW", longest().reduced(0, -1), 0);
        due("one SIGN", longest().reduced(1, -1), 1);
        int[] want = {1, 3, 9, 27, 81, 243};
        for (int s = 0; s < 6; s++) {
            due("SIGN " + s, longest().reduced(s + 1, -1), want[s]);
            due("nine of SIGN " + s, longest().reduced((s + 1) * 111111111, -1), 9 * want[s]);
        }
    }

    @Says("the k-th of them (from 0 on);")
    static void promise12TheFirstAndTheLast() {
        FirstSigns x = longest();
        x.claim(1, NONE);
        due("the first of the longest of SIGN 1", x.reduced(666666666, 0), 1);
        due("the last of them", x.reduced(666666666, 728), 1);
        due("behind the last", x.reduced(666666666, 729), NONE);
        FirstSigns y = longest();
        y.claim(5, 155);
        due("the last of different ones", y.reduced(566666664, 81 + 7 * 163 + 26), 0);
        due("behind it", y.reduced(566666664, 81 + 7 * 163 + 27), NONE);
        FirstSigns z = claims(NONE, 22, 33, 44, 551);
        due("its last is SIGN 0", z.reduced(6, 16), 0);
        due("ahead of its last", z.reduced(6, 15), 1);
        due("the last of nine", z.reduced(666666666, 9 * 17 - 1), 0);
        due("the first of the ninth", z.reduced(666666666, 8 * 17), 1);
        due("the last of the eighth", z.reduced(666666666, 8 * 17 - 1), 0);
    }

    @Says("NONE: there are fewer.")
    static void promise12ThereAreFewer() {
        due("the empty ROW", longest().reduced(0, 0), NONE);
        due("one SIGN", longest().reduced(1, 1), NONE);
        due("the longest, its last", longest().reduced(666666666, 2186), 0);
        due("the longest, behind its last", longest().reduced(666666666, 2187), NONE);
        due("far behind", longest().reduced(666666666, Integer.MAX_VALUE), NONE);
        due("far behind the empty ROW", longest().reduced(0, Integer.MAX_VALUE), NONE);
        // A longer ROW that was REDUCED ahead of it must not be left over.
        FirstSigns x = longest();
        x.reduced(666666666, -1);
        due("behind a longer one", x.reduced(11, 2), NONE);
    }

    @Says("OUTSIDE: the ROW, k below -1.")
    static void promise12Outside() {
        refusesNoRows("how many", 9, row -> longest().reduced(row, -1), OUTSIDE);
        refusesNoRows("the first", 9, row -> longest().reduced(row, 0), OUTSIDE);
        int[] below = {-2, -3, -9, Integer.MIN_VALUE};
        for (int k : below) {
            due("k " + k, longest().reduced(6, k), OUTSIDE);
            due("k " + k + " of the empty ROW", longest().reduced(0, k), OUTSIDE);
        }
    }

    // ---- promise 13

    private static void alikeBoth(FirstSigns x, int row, int other, int want) {
        due("alike(" + row + ", " + other + ")", x.alike(row, other), want);
        due("alike(" + other + ", " + row + ")", x.alike(other, row), want);
    }

    @Says("Whether two ROWS (9 SIGNS at most each)")
    static void promise13FromNoneToNineSigns() {
        alikeBoth(longest(), 0, 0, 1);
        alikeBoth(longest(), 0, 1, 0);
        alikeBoth(longest(), 0, 666666666, 0);
        alikeBoth(longest(), 666666666, 666666666, 1);
        alikeBoth(longest(), 666666666, 666666665, 0);
        alikeBoth(longest(), 666666666, 566666666, 0);
        alikeBoth(longest(), 1, 1111111111, OUTSIDE);
    }

    @Says("are REDUCED to the same (1, 0).")
    static void promise13TheFirstAndTheLastSignCount() {
        alikeBoth(new FirstSigns(), 123456123, 123456123, 1);
        alikeBoth(new FirstSigns(), 123456123, 223456123, 0);
        alikeBoth(new FirstSigns(), 123456123, 123456122, 0);
        alikeBoth(new FirstSigns(), 12345612, 123456123, 0);
        alikeBoth(new FirstSigns(), 23456123, 123456123, 0);
        alikeBoth(new FirstSigns(), 2, 1, 0);
        alikeBoth(claims(1), 2, 1, 1);
        alikeBoth(claims(11), 22, 1111, 1);
        alikeBoth(claims(11), 22, 111, 0);
        alikeBoth(claims(11), 22, 112, 1);
        alikeBoth(longest(), 6, 555, 1);
        alikeBoth(longest(), 6, 554, 0);
    }

    @Says("OUTSIDE.")
    static void promise13Outside() {
        refusesNoRows("alike", 9, row -> longest().alike(row, 1), OUTSIDE);
        refusesNoRows("alike, the other", 9, row -> longest().alike(1, row), OUTSIDE);
        refusesNoRows("alike, both", 9, row -> longest().alike(row, row), OUTSIDE);
    }

    // ---- promise 14

    private static void commonBoth(FirstSigns x, int row, int other, int first, int last) {
        String call = "common " + row + ", " + other + ", ";
        due(call + 0, x.common(row, other, 0), first);
        due(call + 1, x.common(row, other, 1), last);
        due(call + "turned 0", x.common(other, row, 0), first);
        due(call + "turned 1", x.common(other, row, 1), last);
    }

    @Says("How many SIGNS two ROWS (9 SIGNS at most each), REDUCED, have alike one by one")
    static void promise14FromNoneToAll() {
        commonBoth(longest(), 0, 0, 0, 0);
        commonBoth(longest(), 0, 666666666, 0, 0);
        commonBoth(longest(), 666666666, 666666666, 2187, 2187);
        commonBoth(longest(), 666666666, 66666666, 1944, 1944);
        commonBoth(new FirstSigns(), 123456123, 123456123, 9, 9);
        commonBoth(new FirstSigns(), 123456123, 123456122, 8, 0);
        commonBoth(new FirstSigns(), 123456123, 223456123, 0, 8);
    }

    @Says("from the beginning on (end 0),")
    static void promise14FromTheBeginning() {
        due("a break, then alike again", new FirstSigns().common(12345, 12645, 0), 2);
        due("the shorter ends", new FirstSigns().common(12, 12345, 0), 2);
        due("the first differs", new FirstSigns().common(2345, 1345, 0), 0);
        due("within a CLAIM", claims(NONE, 12).common(3, 11, 0), 1);
    }

    @Says("from the end back (1).")
    static void promise14FromTheEnd() {
        due("a break, then alike again", new FirstSigns().common(12345, 12645, 1), 2);
        due("the shorter ends", new FirstSigns().common(45, 12345, 1), 2);
        due("the last differs", new FirstSigns().common(2345, 2346, 1), 0);
        due("within a CLAIM", claims(NONE, 12).common(3, 22, 1), 1);
    }

    @Says("OUTSIDE: a ROW, end.")
    static void promise14Outside() {
        refusesNoRows("common", 9, row -> longest().common(row, 1, 0), OUTSIDE);
        refusesNoRows("common, the other", 9, row -> longest().common(1, row, 1), OUTSIDE);
        int[] outside = {-1, 2, 3, -9, Integer.MIN_VALUE, Integer.MAX_VALUE};
        for (int end : outside) {
            due("end " + end, longest().common(1, 1, end), OUTSIDE);
        }
    }

    // ---- promise 15

    private static void brokenIs(String when, FirstSigns x, int sign, int letter) {
        due(when + ", the SIGN", x.broken(0), sign);
        due(when + ", the LETTER", x.broken(1), letter);
    }

    @Says({"Of the least SIGN whose CLAIM is BROKEN:", "the SIGN (what 0),"})
    static void promise15TheLeastSign() {
        for (int least = 1; least < 6; least++) {
            FirstSigns x = new FirstSigns();
            x.rule(0, 0, 0);
            for (int s = least; s < 6; s++) {
                x.claim(s, 1);
            }
            brokenIs("from " + least + " on", x, least, 0);
        }
        FirstSigns x = claims(1, 1, 1, 1, 1);
        x.rule(5, 2, 0);
        brokenIs("the last alone", x, 5, 2);
    }

    @Says("the first LETTER that breaks it (1);")
    static void promise15TheFirstLetter() {
        for (int first = 0; first < 3; first++) {
            FirstSigns x = claims(1);
            for (int letter = first; letter < 3; letter++) {
                x.rule(1, letter, 0);
            }
            brokenIs("from " + first + " on", x, 1, first);
        }
        FirstSigns x = claims(1, 1);
        x.rule(1, 2, 0);
        x.rule(2, 0, 0);
        brokenIs("of the least SIGN, not of all", x, 1, 2);
    }

    @Says("NONE: no CLAIM is BROKEN.")
    static void promise15NoneIsBroken() {
        brokenIs("no CLAIMS", new FirstSigns(), NONE, NONE);
        brokenIs("no RULES", longest(), NONE, NONE);
        FirstSigns x = new FirstSigns();
        x.rule(0, 0, 0);
        brokenIs("no CLAIMS, a RULE", x, NONE, NONE);
        FirstSigns y = longest();
        y.rule(0, 0, 6);
        y.rule(1, 0, 611);
        y.rule(2, 0, 622);
        brokenIs("of the longest, the rest is missing", y, 2, 0);
        y.claim(2, NONE);
        y.claim(3, NONE);
        brokenIs("without them", y, NONE, NONE);
    }

    @Says("OUTSIDE.")
    static void promise15Outside() {
        int[] outside = {-1, 2, 3, -9, Integer.MIN_VALUE, Integer.MAX_VALUE};
        for (int what : outside) {
            due("what " + what, tower().broken(what), OUTSIDE);
            due("what " + what + ", nothing BROKEN", new FirstSigns().broken(what), OUTSIDE);
        }
    }

    // ---- promise 16

    @Says("All CLAIMS that are BROKEN go at once,")
    static void promise16NoneAndAllAtOnce() {
        due("no CLAIMS", new FirstSigns().settle(), 0);
        due("none is BROKEN", longest().settle(), 0);
        FirstSigns x = claims(1, 1, 1, 1, 1);
        x.rule(0, 0, 0);
        due("all are BROKEN", x.many(4), 5);
        due("all go", x.settle(), 5);
        due("none is left", x.many(1), 0);
        due("once more", x.settle(), 0);
    }

    @Says("and so again, till none is:")
    static void promise16OneBehindAnother() {
        FirstSigns x = tower();
        due("one is BROKEN", x.many(4), 1);
        due("five go", x.settle(), 5);
        due("none is left", x.many(1), 0);
        FirstSigns y = tower();
        y.rule(1, 0, 11);
        due("another is BROKEN", y.broken(0), 2);
        due("four go", y.settle(), 4);
        due("the first stays", y.ofClaim(1), 111);
        due("none is BROKEN then", y.broken(0), NONE);
        for (int s = 2; s < 6; s++) {
            due("gone " + s, y.ofClaim(s), NONE);
        }
    }

    @Says("how many went.")
    static void promise16HowManyWent() {
        for (int most = 0; most < 6; most++) {
            FirstSigns x = claims(1, 1, 1, 1, 1);
            for (int s = 1; s <= most; s++) {
                x.rule(s, 2, 0);
            }
            due("of " + most, x.settle(), most);
            due("the others stay", x.many(1), 5 - most);
        }
    }

    // ---- promise 17

    @Says("ROWS that might be the CLAIM of a SIGN,")
    static void promise17AllRowsOfLesserSigns() {
        int[] all = {0, 3, 14, 39, 84, 155};
        for (int s = 0; s < 6; s++) {
            due("of SIGN " + s, new FirstSigns().might(s, -1), all[s]);
        }
        for (int s = 1; s < 6; s++) {
            FirstSigns x = new FirstSigns();
            due("the first of " + s, x.might(s, 0), 1);
            due("the last of " + s, x.might(s, all[s] - 1), s * 111);
            due("behind the last of " + s, x.might(s, all[s]), NONE);
        }
    }

    @Says("so that this one is not BROKEN")
    static void promise17NotBroken() {
        for (int s = 1; s < 6; s++) {
            FirstSigns x = new FirstSigns();
            x.rule(s, 2, 0);
            due("none READS as SIGN " + s, x.might(s, -1), 0);
            x.rule(0, 2, 0);
            due("one does", x.might(s, -1), 1);
            due("it is SIGN 0 alone", x.might(s, 0), 1);
            x.rule(0, 1, 0);
            due("it READS too much", x.might(s, -1), 0);
        }
    }

    @Says("so that this one is not BROKEN")
    static void promise17JustThoseThatWouldNotBeBroken() {
        int[] counts = {0, 0, 7, 26};
        for (int s = 1; s < 4; s++) {
            FirstSigns x = new FirstSigns();
            x.rule(0, 0, 1);
            x.rule(1, 0, 2);
            x.rule(1, 1, 0);
            x.rule(2, 0, 3);
            x.rule(3, 0, 4);
            int k = 0;
            for (int row = 1; row <= s * 111; row++) {
                if (String.valueOf(row).matches("[1-" + s + "]{1,3}")) {
                    x.claim(s, row);
                    if (x.broken(0) == NONE) {
                        due("of " + s + " the " + k, x.might(s, k), row);
                        k++;
                    }
                }
            }
            due("how many of " + s, x.might(s, -1), k);
            due("how many there should be of " + s, k, counts[s]);
        }
    }

    @Says("(all others as they are),")
    static void promise17TheOtherClaimsStand() {
        FirstSigns x = new FirstSigns();
        x.rule(4, 0, 4);
        x.rule(0, 0, 3);
        due("SIGN 3 is not SIGN 2", x.might(4, -1), 0);
        x.claim(3, 3);
        due("it is claimed to be", x.might(4, -1), 1);
        x.claim(5, 5);
        x.rule(5, 2, 0);
        due("another CLAIM is BROKEN", x.broken(0), 5);
        due("that does not matter", x.might(4, -1), 1);
        due("its own does not matter", claimed(x).might(4, -1), 1);
        due("its own stands", x.ofClaim(4), 222);
        due("the others stand", x.ofClaim(3), 3);
        due("no CHANGE", x.many(3), 6);
    }

    private static FirstSigns claimed(FirstSigns x) {
        x.claim(4, 222);
        return x;
    }

    @Says("shorter ones first, then by number:")
    static void promise17InTheirOrder() {
        FirstSigns x = new FirstSigns();
        int k = 0;
        for (int row = 1; row <= 555; row++) {
            if (String.valueOf(row).matches("[1-5]{1,3}")) {
                due("the " + k, x.might(5, k), row);
                k++;
            }
        }
        due("all", k, 155);
    }

    @Says({"how many (k -1),", "the k-th (from 0 on);"})
    static void promise17HowManyAndTheFirst() {
        FirstSigns x = new FirstSigns();
        x.rule(0, 0, 1);
        x.rule(2, 0, 3);
        due("how many", x.might(2, -1), 7);
        int[] want = {1, 11, 12, 111, 112, 121, 122};
        for (int k = 0; k < want.length; k++) {
            due("the " + k, x.might(2, k), want[k]);
        }
        due("no more", x.might(2, want.length), NONE);
    }

    @Says("NONE: there are fewer.")
    static void promise17ThereAreFewer() {
        due("SIGN 0", new FirstSigns().might(0, 0), NONE);
        due("SIGN 1", new FirstSigns().might(1, 3), NONE);
        due("SIGN 5", new FirstSigns().might(5, 155), NONE);
        due("far behind", new FirstSigns().might(5, Integer.MAX_VALUE), NONE);
        due("far behind, SIGN 0", new FirstSigns().might(0, Integer.MAX_VALUE), NONE);
    }

    @Says("UNKNOWN;")
    static void promise17Unknown() {
        for (int s : NO_SIGNS) {
            due("how many of " + s, longest().might(s, -1), UNKNOWN);
            due("the first of " + s, longest().might(s, 0), UNKNOWN);
            due("k below, of " + s, longest().might(s, -2), UNKNOWN);
        }
    }

    @Says("OUTSIDE: k below -1.")
    static void promise17Outside() {
        int[] below = {-2, -3, -9, Integer.MIN_VALUE};
        for (int k : below) {
            due("k " + k, new FirstSigns().might(5, k), OUTSIDE);
            due("k " + k + " of SIGN 0", new FirstSigns().might(0, k), OUTSIDE);
        }
    }
}
