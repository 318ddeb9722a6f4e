/** Promise 15: RULES as they were told, and their ORDER. */
public final class RulesTest {
    private static final Checks C = new Checks();
    private static final int NONE = RuleSentences.NONE;

    public static void main(String[] args) {
        asTold();
        order();
        pairs();
        C.end("RulesTest");
    }

    private static void rule(int i, int... due) {
        for (int what = 0; what < due.length; what++) {
            C.due("rule(" + i + ", " + what + ")", C.x.rule(i, what), due[what]);
        }
    }

    private static void asTold() {
        C.of("15: RULE i (as told)");
        C.good("A box is a kind. A box can be open or shut. Colour is a kind of value. Colour is red. A box has a colour called tint."
            + " The bag is a box. Rub is an action applying to one box. Definition: a thing is odd if it is fixed."
            + " Before waiting: stop. Instead of taking the bag when the bag is open and the bag is odd: say \"x\"; stop; stop."
            + " After rub an open red odd box when noun is red: try waiting. Every turn when the player is fixed: stop."
            + " Before going: stop. After rub bag: stop. Before taking a thing: stop.");
        rule(0, 0, 0, NONE, NONE, 0, 0, 1, 1);
        rule(1, 1, 1, 1, NONE, 0, 2, 3, 0);
        rule(2, 2, 5, NONE, 5, 3, 1, 1, 1);
        rule(3, 3, NONE, NONE, NONE, 0, 1, 1, 0);
        rule(4, 0, 4, NONE, NONE, 0, 0, 1, 2);
        rule(5, 2, 5, 1, NONE, 0, 0, 1, 0);
        rule(6, 0, 1, NONE, 0, 0, 0, 1, 0);
        C.due("rule(7, 0)", C.x.rule(7, 0), NONE);
        C.due("rule(-1, 0)", C.x.rule(-1, 0), NONE);
        C.due("rule(0, 8)", C.x.rule(0, 8), NONE);
        C.due("rule(0, -1)", C.x.rule(0, -1), NONE);
        C.good("Before taking the player: stop. Before taking player: stop.");
        rule(0, 0, 1, 0, NONE, 0, 0, 1, 0);
        rule(1, 0, 1, 0, NONE, 0, 0, 1, 1);
        // A definition behind a rule leaves that as it is.
        C.good("Before waiting: stop. Definition: a thing is odd if it is fixed and it is fixed.");
        rule(0, 0, 0, NONE, NONE, 0, 0, 1, 0);
    }

    /** Of each two, one alone is what sets them apart; the first comes first, in whichever order they are told. */
    private static void pairs() {
        String world = "A box is a kind. A crate is a kind of box. A mat is a kind. The bag is a crate. The tin is a thing. ";
        String two = " when bag is fixed and tin is fixed";
        String[][] pairs = {
            {"with an object", "the tin", "an fixed portable crate" + two},
            {"with an object", "bag", two},
            {"with a DESCRIPTION", "a thing", two},
            {"the kind with more above it", "a box", "a fixed fixed thing" + two},
            {"the kind with more above it", "a crate", "a fixed fixed box" + two},
            {"the kind with more above it", "a crate", "a fixed mat" + two},
            {"more ADJECTIVES", "a fixed box", "a box" + two},
            {"more ADJECTIVES", "a fixed portable thing", "a fixed thing" + two},
            {"more ADJECTIVES, of another kind with as many above it", "a fixed box", "a mat" + two},
            {"more TESTS, with an object", "the tin when bag is fixed", "the bag"},
            {"more TESTS, with a DESCRIPTION", "a box" + two, "a box when bag is fixed"},
            {"more TESTS, of another kind with as many above it", "a mat when bag is fixed", "a box"},
            {"more TESTS, others", " when bag is fixed", ""}};
        for (String[] pair : pairs) {
            C.of("5: ORDER of RULES of one sort: " + pair[0]);
            String first = "Before taking " + pair[1] + ": stop. ";
            String second = "Before taking " + pair[2] + ": stop. ";
            C.good(world + first + second);
            C.due("the first of <" + first + second + ">", C.x.rule(0, 7), 0);
            C.due("the second of it", C.x.rule(1, 7), 1);
            C.good(world + second + first);
            C.due("the first of <" + second + first + ">", C.x.rule(1, 7), 0);
            C.due("the second of it", C.x.rule(0, 7), 1);
        }
        C.of("5: ORDER of RULES of one sort: .. of alike ones .. then as told");
        String[] alike = {"the tin", "the bag", "a fixed box", "a portable mat", "", "a box when tin is fixed", "a mat when bag is fixed"};
        for (int i = 0; i + 1 < alike.length; i++) {
            if (i % 2 == 0 && i != 4 || i == 5) {
                String one = "Before taking " + alike[i] + ": stop. ";
                String other = "Before taking " + alike[i + 1] + ": stop. ";
                C.good(world + one + other);
                C.due("<" + one + other + ">", C.x.rule(0, 7) * 10 + C.x.rule(1, 7), 1);
                C.good(world + other + one);
                C.due("<" + other + one + ">", C.x.rule(0, 7) * 10 + C.x.rule(1, 7), 1);
            }
        }
        C.of("15: its place in the ORDER of its sort");
        C.good(world + "Before waiting: stop. After waiting: stop. Every turn: stop. Instead of waiting: stop. Before waiting when tin is fixed: stop. Before taking tin: stop."
            + " After taking: stop. Every turn when tin is fixed: stop. Instead of taking a box: stop. Before dropping: stop.");
        int[] due = {2, 0, 1, 1, 1, 0, 1, 0, 0, 3};
        for (int i = 0; i < due.length; i++) {
            C.due("rule(" + i + ", 7)", C.x.rule(i, 7), due[i]);
        }
    }

    private static void order() {
        C.of("5: ORDER of RULES of one sort: with an object; then with a DESCRIPTION, the kind with more above it first, of these that with more ADJECTIVES; then others; of alike ones those with more TESTS; then as told");
        C.good("A box is a kind. A crate is a kind of box. A thing can be old or new. The bag is a crate. The tin is a thing."
            + " Before taking: stop."
            + " Before taking a thing: stop."
            + " Before taking an old thing: stop."
            + " Before taking a crate: stop."
            + " Before taking an old fixed box: stop."
            + " Before taking the tin: stop."
            + " Before taking bag when the bag is old: stop."
            + " Before waiting when the bag is old: stop."
            + " Before taking a new thing when the bag is old: stop."
            + " Before taking a box when the bag is old and the tin is old: stop."
            + " Before dropping a crate when the bag is old: stop."
            + " Before dropping a crate: stop."
            + " Before dropping: stop."
            + " After dropping: stop."
            + " After dropping the bag: stop.");
        // With objects: 6 (a TEST), 5; crates: 10 (a TEST), 3, 11; boxes: 4 (two ADJECTIVES), 9;
        // things: 8 (an ADJECTIVE, a TEST), 2, 1; others: 7 (a TEST), 0, 12; then those of after.
        int[] due = {11, 9, 8, 3, 5, 1, 0, 10, 7, 6, 2, 4, 12, 1, 0};
        for (int i = 0; i < due.length; i++) {
            C.due("rule(" + i + ", 7)", C.x.rule(i, 7), due[i]);
        }
    }
}
