/** Promise 16: TURNS, what actions do, rules at work, phrases. */
public final class ActsTest {
    private static final Checks C = new Checks();
    private static final int NONE = RuleSentences.NONE;
    private static final int WAIT = 0;
    private static final int TAKE = 1;
    private static final int DROP = 2;
    private static final int EXAMINE = 3;
    private static final int GO = 4;

    public static void main(String[] args) {
        nouns();
        taking();
        going();
        turns();
        applying();
        says();
        nows();
        moves();
        numbers();
        tries();
        ends();
        C.end("ActsTest");
    }

    private static void nouns() {
        C.good("The hall is a room. Anna is a person. Greeting is an action applying to one person. Singing is an action.");
        C.due("act(-1, 0)", C.x.act(-1, 0), NONE);
        C.due("act(7, 0)", C.x.act(7, 0), NONE);
        C.due("waiting", C.x.act(WAIT, NONE), 0);
        C.due("waiting with a noun", C.x.act(WAIT, 0), NONE);
        C.due("waiting with a noun", C.x.act(WAIT, -2), NONE);
        C.due("taking nothing", C.x.act(TAKE, NONE), NONE);
        C.due("taking a room", C.x.act(TAKE, 1), NONE);
        C.due("taking none such", C.x.act(TAKE, 3), NONE);
        C.due("going nowhere", C.x.act(GO, NONE), NONE);
        C.due("going none such", C.x.act(GO, 6), NONE);
        C.due("greeting", C.x.act(5, 2), 0);
        C.due("greeting a room", C.x.act(5, 1), NONE);
        C.due("singing", C.x.act(6, NONE), 0);
        C.due("singing with a noun", C.x.act(6, 0), NONE);
    }

    private static void taking() {
        C.good("The hall is a room. The bag is a container in the hall. The tin is in the bag. The rock is a fixed thing. The cap is worn by the player."
            + " Anna is a person in the hall. The key is carried by Anna. The cart is a container in the hall. The seat is a supporter in the cart."
            + " The player is on the seat.");
        C.act(TAKE, 0, 3, "");
        C.act(TAKE, 4, 3, "");
        C.act(TAKE, 5, 3, "");
        C.act(TAKE, 8, 3, "");
        C.act(TAKE, 9, 3, "");
        C.act(TAKE, 3, 0, "");
        C.place(3, 4, 0);
        C.act(TAKE, 3, 3, "");
        C.act(TAKE, 7, 0, "");
        C.place(7, 4, 0);
        C.act(DROP, 2, 3, "");
        C.act(DROP, 3, 0, "");
        C.place(3, 2, 9);
        C.act(DROP, 3, 3, "");
        C.act(DROP, 5, 0, "");
        C.place(5, 2, 9);
        C.act(TAKE, 6, 0, "");
        C.place(6, 4, 0);
        C.good("The tin is carried by the player. The bag is part of the player.");
        C.act(TAKE, 2, 0, "");
        C.act(DROP, 1, 0, "");
        C.place(1, 0, NONE);
        C.good("The bag is a thing. \"A [bag].\"");
        C.act(EXAMINE, 1, 0, "A [bag].\n");
        C.act(EXAMINE, 0, 0, "\n");
    }

    private static void going() {
        C.good("The hall is a room. The yard is north of the hall. The cart is a container in the yard. Instead of waiting: move the player to the cart.");
        C.act(GO, 4, 3, "");
        C.act(GO, 0, 0, "");
        C.place(0, 1, 2);
        C.act(GO, 0, 3, "");
        C.act(GO, 1, 0, "");
        C.place(0, 1, 1);
        C.act(WAIT, NONE, 2, "");
        C.place(0, 1, 3);
        C.act(GO, 1, 3, "");
        C.good("The tin is a thing.");
        C.act(GO, 0, 3, "");
    }

    private static void turns() {
        String every = " Every turn: say \"e\"; stop; say \"f\". Every turn: say \"g\".";
        C.good("The tin is a thing. Before taking: say \"b\". Instead of dropping: say \"i\"; stop; say \"j\". Instead of dropping: say \"k\"."
            + " After taking: say \"a\". Before examining: say \"c\"; stop; say \"d\". Before examining: say \"h\". After waiting: say \"w\"; stop."
            + " After waiting: say \"x\". Instead of examining: say \"l\"." + every);
        C.act(TAKE, 1, 0, "b\na\ne\ng\n");
        C.act(TAKE, 1, 3, "b\ne\ng\n");
        C.act(DROP, 1, 2, "i\ne\ng\n");
        C.act(EXAMINE, 1, 1, "c\ne\ng\n");
        C.act(WAIT, NONE, 4, "w\ne\ng\n");
        C.act(GO, 0, 3, "e\ng\n");
    }

    private static void applying() {
        C.good("A box is a kind. A box can be open or shut. A thing has a number called weight. The bag is a box. The tin is a thing. The bin is an open box."
            + " Before taking: say \"1\". Before taking a box: say \"2\". Before taking an open box: say \"3\". Before taking the tin: say \"4\"."
            + " Before taking when the weight of the player is more than 1: say \"5\". Before dropping: now the bag is open; increase the weight of player by 1."
            + " Before dropping a shut box: say \"shut\". Before dropping an open box when the weight of noun is 0: say \"open\".");
        C.act(TAKE, 0, 3, "1\n");
        C.act(TAKE, 1, 0, "2\n1\n");
        C.act(TAKE, 2, 0, "4\n1\n");
        C.act(TAKE, 3, 0, "3\n2\n1\n");
        C.act(DROP, 1, 0, "shut\n");
        C.act(DROP, 1, 3, "open\n");
        C.act(TAKE, 1, 0, "3\n2\n5\n1\n");
        // Whether one applies is asked when it is come to.
        C.good("A thing can be lit or dark. The tin is a thing. Before waiting when the tin is dark: now the tin is lit; say \"a\"."
            + " Before waiting when the tin is dark: say \"b\". Before waiting when the tin is lit: say \"c\".");
        C.act(WAIT, NONE, 0, "a\nc\n");
        C.act(WAIT, NONE, 0, "c\n");
        C.good("A thing has a number called weight. The weight of player is 3. Before waiting when the weight of player is more than 3: say \"a\"."
            + " Before waiting when the weight of player is more than 2: say \"b\". Before waiting when the weight of player is less than 3: say \"c\"."
            + " Before waiting when the weight of player is less than 4: say \"d\". Before waiting when the weight of player is not 3: say \"e\".");
        C.act(WAIT, NONE, 0, "b\nd\n");
        // The noun of a rule whose object is told without an ART.
        C.good("Colour is a kind of value. Colour is red. A box is a kind. A box has a colour called tint. The bag is a box."
            + " Instead of taking bag when noun is red: say \"[the tint of the noun]\".");
        C.act(TAKE, 1, 2, "red\n");
        C.act(TAKE, 0, 3, "");
        C.good("The hall is a room. The yard is north of the hall. Before going when the player is in the hall: say \"out\". After going: say \"on\".");
        C.act(GO, 0, 0, "out\non\n");
        C.act(GO, 1, 0, "on\n");
    }

    private static void says() {
        String world = "Colour is a kind of value. Colour is dark red. Void is a kind of value. A thing has a colour called tint. A thing has a void called gap."
            + " A thing has a number called weight. A thing has a text called label. The Old Tin is a thing. \"D[x]\" The label of old tin is \"L\"."
            + " The hall is a room. The weight of player is 42. ";
        C.good(world + "Instead of taking: say \"[noun],[the noun], [ The OLD tin ];[a player] [the weight of noun]/[the weight of player].\";"
            + " say \"[the tint of the noun][the gap of noun]-[the label of old tin]+[the description of the old tin]=[hall]\". Instead of waiting: say \"\".");
        C.act(TAKE, 1, 2, "old tin,old tin, old tin;player 0/42.\ndark red-L+D[x]=hall\n");
        C.act(TAKE, 0, 2, "player,player, old tin;player 42/42.\ndark red-L+D[x]=hall\n");
        C.act(WAIT, NONE, 2, "\n");
        String take = world + "Before taking: say ^";
        String[] wrong = {"[", "]", "[noun", "noun]", "[]", "[ ]", "[[noun]]", "[noun]]", "[it]", "[a noun]", "[thing]", "[frob]", "[noun noun]",
            "[weight of noun]", "[the weight noun]", "[the weight of it]", "[the weight of thing]", "[the weight of hall]", "[the frob of noun]",
            "[the weight of]", "[the weight of the]", "[the]", "[5]", "[noun.]", "[abcdefghijklm]", "[the the noun]", "[the weight of a noun]"};
        for (String w : wrong) {
            C.bad(8, take + "\"a " + w + "\".");
        }
        C.bad(8, world + "Every turn: say ^\"[noun]\".");
        C.bad(8, world + "Before waiting: say ^\"[the noun]\".");
        C.bad(8, world + "Before going: say ^\"[the noun]\".");
        C.bad(8, world + "A box is a kind. A box has a number called size. Before taking a thing: say ^\"[the size of noun]\".");
        C.good(world + "A box is a kind. A box has a number called size. Before taking a box: say \"[the size of noun]\".");
    }

    private static void nows() {
        C.good("A thing can be lit or dark. Colour is a kind of value. Colour is red, blue. A thing has a colour called tint. A thing has a text called label."
            + " A thing has a number called weight. The tin is a thing. Liking relates various things to one thing. The verb to like means the liking relation."
            + " Owning relates one thing to various things. The verb to own means the owning relation. Knowing relates various things to various things."
            + " The verb to know means the knowing relation. The tin likes the player. The player owns the tin. The player knows the player."
            + " Before taking: now the noun is lit. Before dropping: now the noun is not lit; now the noun is blue."
            + " Before examining: now the label of noun is \"xyz\"; now the weight of noun is 7; now the tint of noun is red."
            + " Before waiting: now the tin likes the tin; now the tin owns the tin; now the player knows the tin.");
        C.x.act(TAKE, 1);
        C.due("now lit", C.x.is(1, 2), 1);
        C.due("not dark", C.x.is(1, 3), 0);
        C.x.act(DROP, 1);
        C.due("not lit", C.x.is(1, 2), 0);
        C.due("now dark", C.x.is(1, 3), 1);
        C.due("blue", C.x.property(1, 1), 1);
        C.x.act(EXAMINE, 1);
        C.due("label", C.text(1, 2), "xyz");
        C.due("weight", C.x.property(1, 3), 7);
        C.due("red", C.x.property(1, 1), 0);
        C.x.act(WAIT, NONE);
        C.due("likes one only", C.x.related(0, 1, 0), false);
        C.due("likes the tin", C.x.related(0, 1, 1), true);
        C.due("owned by one only", C.x.related(1, 0, 1), false);
        C.due("owned by the tin", C.x.related(1, 1, 1), true);
        C.due("knows", C.x.related(2, 0, 1), true);
        C.due("still knows", C.x.related(2, 0, 0), true);
    }

    private static void moves() {
        C.good("The hall is a room. The bag is a container. The mat is a supporter. Anna is a person. The tin is a thing. The lid is a thing."
            + " Before taking: move the tin to the noun. Before dropping: move the tin to the hall. Before waiting: move the bag to the tin.");
        C.x.act(TAKE, 3);
        C.place(5, 2, 3);
        C.x.act(TAKE, 4);
        C.place(5, 4, 4);
        C.x.act(TAKE, 6);
        C.place(5, 3, 6);
        C.x.act(TAKE, 5);
        C.place(5, 4, 0);
        C.x.act(DROP, 0);
        C.place(5, 1, 1);
        C.x.act(TAKE, 2);
        C.place(5, 1, 2);
        C.x.act(WAIT, NONE);
        C.place(2, 4, 0);
    }

    private static void numbers() {
        C.good("A thing has a number called weight. The tin is a thing. Before taking: increase the weight of noun by 999999. Before dropping: decrease the weight of noun by 999999."
            + " Before examining: say \"[the weight of noun]\". Before waiting: decrease the weight of tin by 1."
            + " Aa, bb, cc, dd, ee, ff and gg are a thing. The weight of aa is 9. The weight of bb is 10. The weight of cc is 11. The weight of dd is 99."
            + " The weight of ee is 100. The weight of ff is 101. The weight of gg is 123456.");
        int[] numbers = {9, 10, 11, 99, 100, 101, 123456};
        for (int i = 0; i < numbers.length; i++) {
            C.act(EXAMINE, 2 + i, 0, numbers[i] + "\n\n");
        }
        C.x.act(WAIT, NONE);
        C.due("-1", C.x.property(1, 1), -1);
        C.act(EXAMINE, 1, 0, "-1\n\n");
        C.x.act(TAKE, 1);
        C.due("999998", C.x.property(1, 1), 999998);
        C.x.act(TAKE, 1);
        C.due("999999", C.x.property(1, 1), 999999);
        C.act(EXAMINE, 1, 0, "999999\n\n");
        C.x.act(DROP, 1);
        C.x.act(DROP, 1);
        C.x.act(DROP, 1);
        C.due("-999999", C.x.property(1, 1), -999999);
        C.act(EXAMINE, 1, 0, "-999999\n\n");
    }

    private static void tries() {
        C.good("The hall is a room. Anna is a person in the hall. The tin is a thing in the hall. Greeting is an action applying to one person. Rubbing is an action."
            + " Before greeting: say \"hi [noun]\". Instead of rubbing: try greeting the hall; try greeting tin; try greeting Anna; try taking the tin; say \"end\"."
            + " Before dropping: try examining noun; stop. Before examining: say \"x\"; stop. After taking: say \"took\".");
        C.act(6, NONE, 2, "hi anna\ntook\nend\n");
        C.place(3, 4, 0);
        C.act(DROP, 3, 1, "x\n");
        C.act(DROP, 2, 1, "x\n");
        // Eight actions lie within one another, and no more.
        C.good("Instead of waiting: say \"w\"; try waiting; say \"v\".");
        C.act(WAIT, NONE, 2, Checks.times("w\n", 8) + Checks.times("v\n", 8));
        C.good("Rubbing is an action. Every turn: say \"e\"; try waiting. Instead of waiting: say \"w\"; try waiting.");
        C.act(5, NONE, 0, "e\n" + Checks.times("w\n", 8));
    }

    private static void ends() {
        C.good("Instead of waiting: say \"a\"; try waiting; try waiting.");
        C.x.clear();
        C.due("ended", C.x.act(WAIT, NONE), 5);
        String said = C.said();
        C.due("says", said.length() / 2, 300 - tries(300));
        C.good("A thing has a number called weight. Before waiting: " + Checks.times("increase the weight of player by 1; ", 7) + "stop."
            + " Every turn: try waiting." + Checks.times(" Every turn: try waiting; try waiting; try waiting; try waiting.", 10));
        C.due("ended in every turn", C.x.act(GO, 0), 5);
        // One turn of waiting: 8 phrases and a try.
        C.due("phrases done", C.x.property(0, 1), increased());
        C.good("A thing has a number called weight. Instead of waiting: increase the weight of player by 1; try waiting; try waiting; stop. After taking: stop."
            + " Every turn: say \"e\".");
        C.due("the 301st is not done", C.x.act(WAIT, NONE), 5);
        C.due("no every turn", C.x.outs(), 0);
        C.due("as ever behind that", C.x.act(GO, 0), 3);
        C.due("every turn", C.x.outs(), 2);
        // Five tries with 59 phrases each: 300 are done, one more is not.
        String fourTries = Checks.times("try waiting; ", 4);
        String waits = Checks.times("Before waiting: " + Checks.times("say \"\"; ", 7) + "say \"\". ", 7);
        C.good("Rubbing is an action. " + waits + "Before waiting: say \"\"; say \"\"; say \"\". Instead of rubbing: " + fourTries + "try waiting.");
        C.due("300 phrases", C.x.act(5, NONE), 2);
        C.due("lines", C.x.clear(), 295);
        C.good("Rubbing is an action. " + waits + "Before waiting: say \"\"; say \"\"; say \"\". Instead of rubbing: " + fourTries + "try waiting; stop.");
        C.due("301 phrases", C.x.act(5, NONE), 5);
    }

    /** How many of the first n phrases of "say; try; try", eight deep, are tries. */
    private static int tries(int n) {
        int[] left = {n, 0};
        walk(1, left);
        return left[1];
    }

    private static void walk(int depth, int[] left) {
        left[0]--;
        for (int i = 0; i < 2; i++) {
            if (left[0] <= 0) {
                return;
            }
            left[0]--;
            left[1]++;
            if (depth < 8) {
                if (left[0] <= 0) {
                    return;
                }
                walk(depth + 1, left);
            }
        }
    }

    /** 300 phrases: each try with the eight of its rule, seven of which add one. */
    private static int increased() {
        int added = 0;
        int phrase = 0;
        while (phrase < 300) {
            phrase++;
            for (int i = 0; i < 8 && phrase < 300; i++) {
                phrase++;
                added += i < 7 ? 1 : 0;
            }
        }
        return added;
    }
}
