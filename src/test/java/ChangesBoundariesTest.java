import static support.Boundaries.due;

import java.io.IOException;
import support.Boundaries;
import support.Boundaries.Says;

/** The boundary cases that promises 18 and 19 and the bound on calls name, a test for each sentence. */
public final class ChangesBoundariesTest {
    private static final int OUTSIDE = -2;
    private static final int NONE = -9;
    private static final int KEPT = 20;

    public static void main(String[] args) throws IOException {
        Boundaries.run(ChangesBoundariesTest.class, "promise18", "promise19");
    }

    private static String state(FirstSigns x) {
        return Boundaries.state(x::ofRule, x::ofClaim, x::many);
    }

    /** The n-th CHANGE of a run: a RULE, a CLAIM or settle() in turn. */
    private static void change(FirstSigns x, int n) {
        if (n % 7 == 6) {
            x.settle();
        } else if (n % 3 == 0) {
            x.claim(n % 5 + 1, n % 2 == 0 ? 1 : NONE);
        } else {
            x.rule(n % 6, n % 4 == 0 ? 2 : n % 2, n % 11 == 0 ? NONE : n % 6 + 1);
        }
    }

    private static FirstSigns changed(int count) {
        FirstSigns x = new FirstSigns();
        for (int n = 0; n < count; n++) {
            change(x, n);
        }
        return x;
    }

    /** Without how many are kept. */
    private static String rulesAndClaims(FirstSigns x) {
        return state(x).replaceAll("kept.*", "");
    }

    // ---- what it is

    @Says("An object is used for at most 512 calls after it has been made;")
    static void whatItIsThe512thCallIsAnswered() {
        FirstSigns x = new FirstSigns();
        for (int n = 1; n <= 510; n++) {
            x.rule(5, 2, n % 6 + 1);
        }
        due("511 calls, undo", x.undo(KEPT), 0);
        due("512 calls, what it was", x.ofRule(5, 2), (510 - KEPT) % 6 + 1);
        FirstSigns y = new FirstSigns();
        for (int n = 1; n <= 511; n++) {
            due("call " + n, y.might(5, 154), 555);
        }
        due("512 calls, might", y.might(5, -1), 155);
    }

    // ---- promise 18

    @Says("The last k CHANGES (0 .. as many as are kept) are undone:")
    static void promise18EachKOfEachRun() {
        for (int count = 0; count <= 45; count++) {
            int kept = Math.min(count, KEPT);
            for (int k = 0; k <= kept; k++) {
                FirstSigns x = changed(count);
                due(count + " less " + k, x.undo(k), kept - k);
                due(count + " less " + k, rulesAndClaims(x), rulesAndClaims(changed(count - k)));
            }
        }
    }

    @Says("The last k CHANGES (0 .. as many as are kept) are undone:")
    static void promise18NoneAreUndone() {
        due("of none", new FirstSigns().undo(0), 0);
        FirstSigns x = changed(13);
        String before = state(x);
        due("of thirteen", x.undo(0), 13);
        due("all as it was", state(x), before);
    }

    @Says("The last k CHANGES (0 .. as many as are kept) are undone:")
    static void promise18ChangesThatLeftAllAsItWas() {
        FirstSigns x = new FirstSigns();
        x.rule(0, 0, 5);
        x.rule(0, 0, 5);
        x.claim(1, NONE);
        x.settle();
        due("three of them", x.undo(3), 1);
        due("the first stands", x.ofRule(0, 0), 5);
        due("the first", x.undo(1), 0);
        due("it is undone", x.ofRule(0, 0), NONE);
    }

    @Says("The last k CHANGES (0 .. as many as are kept) are undone:")
    static void promise18AllThatOneSettleTook() {
        FirstSigns x = new FirstSigns();
        for (int s = 1; s < 6; s++) {
            x.claim(s, 1);
        }
        x.rule(0, 0, 0);
        due("all go", x.settle(), 5);
        due("one CHANGE", x.undo(1), 6);
        for (int s = 1; s < 6; s++) {
            due("CLAIM " + s, x.ofClaim(s), 1);
        }
    }

    @Says("how many are kept then.")
    static void promise18ChangesAfterUndo() {
        for (int back = 0; back <= KEPT; back++) {
            for (int more = 0; more <= 25; more += 5) {
                FirstSigns x = changed(33);
                x.undo(back);
                for (int n = 33 - back; n < 33 - back + more; n++) {
                    change(x, n);
                }
                int kept = Math.min(KEPT - back + more, KEPT);
                due("kept, " + back + " back and " + more, x.many(3), kept);
                due("one more", x.undo(kept + 1), OUTSIDE);
                due("all", x.undo(kept), 0);
                due("what was ahead of all", rulesAndClaims(x),
                        rulesAndClaims(changed(33 - back + more - kept)));
            }
        }
    }

    @Says("how many are kept then.")
    static void promise18AnUndoneChangeIsNotKept() {
        FirstSigns x = changed(25);
        due("five", x.undo(5), 15);
        due("fifteen", x.undo(15), 0);
        due("no more", x.undo(1), OUTSIDE);
        due("none", x.undo(0), 0);
    }

    @Says("OUTSIDE.")
    static void promise18Outside() {
        int[] outside = {-1, -2, -9, -20, 21, 40, Integer.MIN_VALUE, Integer.MAX_VALUE};
        for (int count = 0; count <= 25; count++) {
            FirstSigns x = changed(count);
            String before = state(x);
            for (int k : outside) {
                due("undo " + k + " of " + count, x.undo(k), OUTSIDE);
            }
            due("one too many of " + count, x.undo(Math.min(count, KEPT) + 1), OUTSIDE);
            due("all as it was", state(x), before);
        }
    }

    // ---- promise 19

    private static FirstSigns full() {
        FirstSigns x = new FirstSigns();
        for (int s = 0; s < 6; s++) {
            for (int letter = 0; letter < 3; letter++) {
                x.rule(s, letter, 0);
            }
        }
        return x;
    }

    @Says({"How many:", "0 RULES,"})
    static void promise19Rules() {
        FirstSigns x = new FirstSigns();
        due("none", x.many(0), 0);
        for (int n = 0; n < 18; n++) {
            x.rule(n / 3, n % 3, 0);
            due("the empty ROW is one, " + n, x.many(0), n + 1);
        }
        x.rule(5, 2, 666);
        due("another ROW", x.many(0), 18);
        x.rule(5, 2, NONE);
        due("away", x.many(0), 17);
    }

    @Says("1 CLAIMS,")
    static void promise19Claims() {
        FirstSigns x = new FirstSigns();
        due("none", x.many(1), 0);
        x.claim(0, NONE);
        due("SIGN 0 never has one", x.many(1), 0);
        for (int s = 1; s < 6; s++) {
            x.claim(s, 1);
            due("up to " + s, x.many(1), s);
        }
        x.claim(3, NONE);
        due("away", x.many(1), 4);
    }

    @Says("2 SIGNS that have a WORD (as a ROW of one),")
    static void promise19SignsThatHaveAWord() {
        due("none", new FirstSigns().many(2), 0);
        due("all", full().many(2), 6);
        FirstSigns up = new FirstSigns();
        FirstSigns down = new FirstSigns();
        for (int s = 0; s < 6; s++) {
            up.rule(s, 1, s * 111);
            due("up to " + s, up.many(2), s + 1);
            down.rule(s, 1, s == 5 ? 0 : s + 2);
            due("all by the last, " + s, down.many(2), s == 5 ? 6 : 0);
        }
        up.rule(0, 1, 1);
        due("the least of them stays", up.many(2), 0);
    }

    @Says("3 CHANGES that are kept,")
    static void promise19ChangesThatAreKept() {
        for (int count = 0; count <= 41; count++) {
            due("of " + count, changed(count).many(3), Math.min(count, KEPT));
        }
    }

    @Says("4 CLAIMS that are BROKEN.")
    static void promise19ClaimsThatAreBroken() {
        due("no CLAIMS", full().many(4), 0);
        FirstSigns x = new FirstSigns();
        for (int s = 1; s < 6; s++) {
            x.claim(s, 1);
        }
        due("no RULES", x.many(4), 0);
        for (int s = 1; s < 6; s++) {
            x.rule(s, 2, 0);
            due("up to " + s, x.many(4), s);
        }
        x.rule(0, 2, 0);
        due("mended", x.many(4), 0);
        due("they all stand", x.many(1), 5);
    }

    @Says("OUTSIDE.")
    static void promise19Outside() {
        int[] outside = {-1, 5, 6, -2, -9, Integer.MIN_VALUE, Integer.MAX_VALUE};
        for (int what : outside) {
            due("what " + what, new FirstSigns().many(what), OUTSIDE);
            due("what " + what + " of a full one", full().many(what), OUTSIDE);
        }
    }
}
