/** Promise 16: TURNS, what actions do, rules at work, phrases. */
public final class ActsTest {
    private static final Checks C = new Checks();
    private static final int NONE = RuleSentences.NONE;
    private static final int WAIT = 0;
    private static final int TAKE = 1;
    private static final int DROP = 2;
    private static final int EXAMINE = 3;
    private static final int GO = 4;

    public static void main(String[] args) {
        nouns();
        taking();
        going();
        taken();
        dropped();
        turns();
        stops();
        applying();
        says();
        nows();
        nothingElse();
        longestNames();
        relationsNow();
        moves();
        ringsByMove();
        numbers();
        bounds();
        tries();
        triedKinds();
        ends();
        lastPhrases();
        C.end("ActsTest");
    }

    private static void nouns() {
        C.of("16: a noun (an object of its kind, a direction; NONE for those of no kind)");
        C.good("The hall is a room. Anna is a person. Greeting is an action applying to one person. Singing is an action.");
        C.due("act(-1, 0)", C.x.act(-1, 0), NONE);
        C.due("act(7, 0)", C.x.act(7, 0), NONE);
        C.due("waiting", C.x.act(WAIT, NONE), 0);
        C.due("waiting with a noun", C.x.act(WAIT, 0), NONE);
        C.due("waiting with a noun", C.x.act(WAIT, -2), NONE);
        C.due("taking nothing", C.x.act(TAKE, NONE), NONE);
        C.due("taking a room", C.x.act(TAKE, 1), NONE);
        C.due("taking none such", C.x.act(TAKE, 3), NONE);
        C.due("going nowhere", C.x.act(GO, NONE), NONE);
        C.due("going none such", C.x.act(GO, 6), NONE);
        C.due("greeting", C.x.act(5, 2), 0);
        C.due("greeting a room", C.x.act(5, 1), NONE);
        C.due("singing", C.x.act(6, NONE), 0);
        C.due("singing with a noun", C.x.act(6, 0), NONE);
    }

    private static void taking() {
        C.of("5: Taking FAILS, if .. Dropping FAILS, unless .. else it is placed as the player is. Examining: the description, then a 10");
        C.good("The hall is a room. The bag is a container in the hall. The tin is in the bag. The rock is a fixed thing. The cap is worn by the player."
            + " Anna is a person in the hall. The key is carried by Anna. The cart is a container in the hall. The seat is a supporter in the cart."
            + " The player is on the seat.");
        C.act(TAKE, 0, 3, "");
        C.act(TAKE, 4, 3, "");
        C.act(TAKE, 5, 3, "");
        C.act(TAKE, 8, 3, "");
        C.act(TAKE, 9, 3, "");
        C.act(TAKE, 3, 0, "");
        C.place(3, 4, 0);
        C.act(TAKE, 3, 3, "");
        C.act(TAKE, 7, 0, "");
        C.place(7, 4, 0);
        C.act(DROP, 2, 3, "");
        C.act(DROP, 3, 0, "");
        C.place(3, 2, 9);
        C.act(DROP, 3, 3, "");
        C.act(DROP, 5, 0, "");
        C.place(5, 2, 9);
        C.act(TAKE, 6, 0, "");
        C.place(6, 4, 0);
        C.good("The tin is carried by the player. The bag is part of the player.");
        C.act(TAKE, 2, 0, "");
        C.act(DROP, 1, 0, "");
        C.place(1, 0, NONE);
        C.good("The bag is a thing. \"A [bag].\"");
        C.act(EXAMINE, 1, 0, "A [bag].\n");
        C.act(EXAMINE, 0, 0, "\n");
    }

    private static void taken() {
        String story = "The hall is a room. The crate is a container in the hall. The seat is a supporter in the crate. The arm is part of the seat. Anna is a person in the hall."
            + " The mole is part of the player. The bin is a container carried by the player. The pea is in the bin. ";
        C.of("5: Taking FAILS, if the noun is the player");
        C.good(story + "The player is in the hall.");
        C.act(TAKE, 0, 3, "");
        C.place(0, 1, 1);
        C.of("5: Taking FAILS, if the noun is .. fixed");
        C.good(story + "A box is a kind of container. A box is usually fixed. The case is a box. The tin is a portable box. The pin is a fixed thing."
            + " Before dropping: now the noun is fixed. Before examining: now the noun is not fixed.");
        C.act(TAKE, 9, 3, "");
        C.act(TAKE, 10, 0, "");
        C.act(TAKE, 11, 3, "");
        C.act(EXAMINE, 11, 0, "\n");
        C.act(TAKE, 11, 0, "");
        C.act(DROP, 11, 0, "");
        C.act(TAKE, 11, 3, "");
        C.of("5: Taking FAILS, if the noun is .. carried or worn by the player");
        C.good(story + "The cap is worn by the player. The hat is worn by anna. The key is carried by anna.");
        C.act(TAKE, 7, 3, "");
        C.place(7, 4, 0);
        C.act(TAKE, 9, 3, "");
        C.place(9, 5, 0);
        C.act(TAKE, 10, 0, "");
        C.place(10, 4, 0);
        C.act(TAKE, 11, 0, "");
        C.place(11, 4, 0);
        C.of("5: .. else the player carries it (part of the player, in what the player carries)");
        C.act(TAKE, 6, 0, "");
        C.place(6, 4, 0);
        C.act(TAKE, 8, 0, "");
        C.place(8, 4, 0);
        C.of("5: Taking FAILS, if .. the player is within it by any steps");
        String[] within = {"in the crate", "on the seat", "carried by anna", "in the hall"};
        for (int i = 0; i < within.length; i++) {
            C.good(story + "The player is " + within[i] + ".");
            C.act(TAKE, 2, i < 2 ? 3 : 0, "");
            C.good(story + "The player is " + within[i] + ".");
            C.act(TAKE, 3, i == 1 ? 3 : 0, "");
            C.act(TAKE, 4, 0, "");
            C.act(TAKE, 5, i == 2 ? 3 : 0, "");
        }
        C.good(story + "The sack is a container. The player is part of the sack. The sack is carried by anna. The bus is a container. Anna is in the hall.");
        C.act(TAKE, 9, 3, "");
        C.act(TAKE, 5, 3, "");
        C.act(TAKE, 10, 0, "");
    }

    private static void dropped() {
        String story = "The hall is a room. The crate is a container in the hall. The cap is worn by the player. The key is carried by the player. The mole is part of the player."
            + " Anna is a person in the hall. The pin is carried by anna. The bin is a container carried by the player. The pea is in the bin. The pot is in the hall. ";
        C.of("5: Dropping FAILS, unless the player carries or wears it");
        C.good(story);
        int[] due = {3, NONE, 3, 0, 0, 3, 3, 3, 0, 3, 3};
        for (int i = 0; i < due.length; i++) {
            C.due("dropping " + i, C.x.act(DROP, i), due[i]);
        }
        C.of("5: .. else it is placed as the player is");
        C.place(3, 1, 1);
        C.place(4, 1, 1);
        C.place(5, 3, 0);
        C.place(7, 4, 6);
        String[] places = {"in the crate", "on the seat", "part of the crate", "carried by anna", "worn by anna"};
        int[] holders = {2, 11, 2, 6, 6};
        for (int i = 0; i < places.length; i++) {
            C.good(story + "The seat is a supporter. The player is " + places[i] + ".");
            C.act(DROP, 4, 0, "");
            C.place(4, i + 1, holders[i]);
        }
        C.good("The key is carried by the player.");
        C.act(DROP, 1, 0, "");
        C.place(1, 0, NONE);
    }

    private static void going() {
        C.of("5: Going FAILS, unless the player is in a room, from which that way leads; else the player is in that one");
        C.good("The hall is a room. The yard is north of the hall. The cart is a container in the yard. Instead of waiting: move the player to the cart.");
        C.act(GO, 4, 3, "");
        C.act(GO, 0, 0, "");
        C.place(0, 1, 2);
        C.act(GO, 0, 3, "");
        C.act(GO, 1, 0, "");
        C.place(0, 1, 1);
        C.act(WAIT, NONE, 2, "");
        C.place(0, 1, 3);
        C.act(GO, 1, 3, "");
        C.good("The tin is a thing.");
        C.act(GO, 0, 3, "");
    }

    private static void turns() {
        C.of("5: before, then of instead the first one that applies, and nothing more; else what is done; if that does not FAIL, those of after. stop ends its RULE, and the action, if it is one of before or after");
        String every = " Every turn: say \"e\"; stop; say \"f\". Every turn: say \"g\".";
        C.good("The tin is a thing. Before taking: say \"b\". Instead of dropping: say \"i\"; stop; say \"j\". Instead of dropping: say \"k\"."
            + " After taking: say \"a\". Before examining: say \"c\"; stop; say \"d\". Before examining: say \"h\". After waiting: say \"w\"; stop."
            + " After waiting: say \"x\". Instead of examining: say \"l\"." + every);
        C.act(TAKE, 1, 0, "b\na\ne\ng\n");
        C.act(TAKE, 1, 3, "b\ne\ng\n");
        C.act(DROP, 1, 2, "i\ne\ng\n");
        C.act(EXAMINE, 1, 1, "c\ne\ng\n");
        C.act(WAIT, NONE, 4, "w\ne\ng\n");
        C.act(GO, 0, 3, "e\ng\n");
    }

    private static void stops() {
        C.of("5: stop ends its RULE, and the action that it is of, if it is one of before or after");
        String say = "Before waiting: say \"b1\"; @; say \"b2\". Before waiting: say \"b3\". After waiting: say \"a1\"; #; say \"a2\". After waiting: say \"a3\"."
            + " Every turn: say \"e1\"; %; say \"e2\". Every turn: say \"e3\".";
        C.good(say.replace("@", "say \"b\"").replace("#", "say \"a\"").replace("%", "say \"e\""));
        C.act(WAIT, NONE, 0, "b1\nb\nb2\nb3\na1\na\na2\na3\ne1\ne\ne2\ne3\n");
        C.good(say.replace("@", "stop").replace("#", "say \"a\"").replace("%", "say \"e\""));
        C.act(WAIT, NONE, 1, "b1\ne1\ne\ne2\ne3\n");
        C.good(say.replace("@", "say \"b\"").replace("#", "stop").replace("%", "say \"e\""));
        C.act(WAIT, NONE, 4, "b1\nb\nb2\nb3\na1\ne1\ne\ne2\ne3\n");
        C.good(say.replace("@", "say \"b\"").replace("#", "say \"a\"").replace("%", "stop"));
        C.act(WAIT, NONE, 0, "b1\nb\nb2\nb3\na1\na\na2\na3\ne1\ne3\n");
        C.of("5: .. of a tried action, too");
        C.good("Rubbing is an action. Singing is an action. Before waiting: say \"b\"; try rubbing; say \"c\". Before rubbing: say \"r\"; stop. After rubbing: say \"ar\"."
            + " After waiting: say \"aw\"; try singing; say \"ax\". After singing: say \"s\"; stop; say \"t\". After singing: say \"u\".");
        C.act(WAIT, NONE, 0, "b\nr\nc\naw\ns\nax\n");
        C.of("5: then of instead the first one that applies, and nothing more");
        C.good("Instead of waiting when the player is fixed: say \"no\". Instead of waiting: stop; say \"i\". Instead of waiting: say \"j\". After waiting: say \"a\"."
            + " Instead of taking player: say \"own\". Instead of taking: say \"any\". Before taking: say \"b\".");
        C.act(WAIT, NONE, 2, "");
        C.act(TAKE, 0, 2, "b\nown\n");
        C.good("The tin is a thing. Instead of taking the tin: say \"tin\". After taking: say \"a\". After examining: say \"x\".");
        C.act(TAKE, 0, 3, "");
        C.act(TAKE, 1, 2, "tin\n");
        C.act(EXAMINE, 1, 0, "\nx\n");
        C.of("5: A TURN: .. then the RULES of every turn (6) that apply, in their order");
        C.good("The hall is a room. The yard is north of the hall. Every turn: say \"1\". Every turn when the player is in the yard: say \"yard\"."
            + " Every turn when the player is in the hall and player is portable: say \"hall\".");
        C.act(GO, 0, 0, "yard\n1\n");
        C.act(GO, 0, 3, "yard\n1\n");
        C.act(GO, 1, 0, "hall\n1\n");
    }

    private static void applying() {
        C.of("5: A RULE applies, when it is of that action, the noun is its object, or of its DESCRIPTION's kind with all the ADJECTIVES, and all its TESTS hold");
        C.good("A box is a kind. A box can be open or shut. A thing has a number called weight. The bag is a box. The tin is a thing. The bin is an open box."
            + " Before taking: say \"1\". Before taking a box: say \"2\". Before taking an open box: say \"3\". Before taking the tin: say \"4\"."
            + " Before taking when the weight of the player is more than 1: say \"5\". Before dropping: now the bag is open; increase the weight of player by 1."
            + " Before dropping a shut box: say \"shut\". Before dropping an open box when the weight of noun is 0: say \"open\".");
        C.act(TAKE, 0, 3, "1\n");
        C.act(TAKE, 1, 0, "2\n1\n");
        C.act(TAKE, 2, 0, "4\n1\n");
        C.act(TAKE, 3, 0, "3\n2\n1\n");
        C.act(DROP, 1, 0, "shut\n");
        C.act(DROP, 1, 3, "open\n");
        C.act(TAKE, 1, 0, "3\n2\n5\n1\n");
        // Whether one applies is asked when it is come to.
        C.good("A thing can be lit or dark. The tin is a thing. Before waiting when the tin is dark: now the tin is lit; say \"a\"."
            + " Before waiting when the tin is dark: say \"b\". Before waiting when the tin is lit: say \"c\".");
        C.act(WAIT, NONE, 0, "a\nc\n");
        C.act(WAIT, NONE, 0, "c\n");
        C.good("A thing has a number called weight. The weight of player is 3. Before waiting when the weight of player is more than 3: say \"a\"."
            + " Before waiting when the weight of player is more than 2: say \"b\". Before waiting when the weight of player is less than 3: say \"c\"."
            + " Before waiting when the weight of player is less than 4: say \"d\". Before waiting when the weight of player is not 3: say \"e\".");
        C.act(WAIT, NONE, 0, "b\nd\n");
        // The noun of a rule whose object is told without an ART.
        C.good("Colour is a kind of value. Colour is red. A box is a kind. A box has a colour called tint. The bag is a box."
            + " Instead of taking bag when noun is red: say \"[the tint of the noun]\".");
        C.act(TAKE, 1, 2, "red\n");
        C.act(TAKE, 0, 3, "");
        C.good("The hall is a room. The yard is north of the hall. Before going when the player is in the hall: say \"out\". After going: say \"on\".");
        C.act(GO, 0, 0, "out\non\n");
        C.act(GO, 1, 0, "on\n");
    }

    private static void says() {
        C.of("5: say: the TEXT, then a 10. In it [ ] ..; no other [ or ]");
        String world = "Colour is a kind of value. Colour is dark red. Void is a kind of value. A thing has a colour called tint. A thing has a void called gap."
            + " A thing has a number called weight. A thing has a text called label. The Old Tin is a thing. \"D[x]\" The label of old tin is \"L\"."
            + " The hall is a room. The weight of player is 42. ";
        C.good(world + "Instead of taking: say \"[noun],[the noun], [ The OLD tin ];[a player] [the weight of noun]/[the weight of player].\";"
            + " say \"[the tint of the noun][the gap of noun]-[the label of old tin]+[the description of the old tin]=[hall]\". Instead of waiting: say \"\".");
        C.act(TAKE, 1, 2, "old tin,old tin, old tin;player 0/42.\ndark red-L+D[x]=hall\n");
        C.act(TAKE, 0, 2, "player,player, old tin;player 42/42.\ndark red-L+D[x]=hall\n");
        C.act(WAIT, NONE, 2, "\n");
        String take = world + "Before taking: say ^";
        String[] wrong = {"[", "]", "[noun", "noun]", "[]", "[ ]", "[[noun]]", "[noun]]", "[it]", "[a noun]", "[thing]", "[frob]", "[noun noun]",
            "[weight of noun]", "[the weight noun]", "[the weight of it]", "[the weight of thing]", "[the weight of hall]", "[the frob of noun]",
            "[the weight of]", "[the weight of the]", "[the]", "[5]", "[noun.]", "[abcdefghijklm]", "[the the noun]", "[the weight of a noun]"};
        for (String w : wrong) {
            C.bad(8, take + "\"a " + w + "\".");
        }
        C.bad(8, world + "Every turn: say ^\"[noun]\".");
        C.bad(8, world + "Before waiting: say ^\"[the noun]\".");
        C.bad(8, world + "Before going: say ^\"[the noun]\".");
        C.bad(8, world + "A box is a kind. A box has a number called size. Before taking a thing: say ^\"[the size of noun]\".");
        C.good(world + "A box is a kind. A box has a number called size. Before taking a box: say \"[the size of noun]\".");
    }

    private static void nows() {
        C.of("5: now: so it is then (not: the contrary); of a relation with one others end");
        C.good("A thing can be lit or dark. Colour is a kind of value. Colour is red, blue. A thing has a colour called tint. A thing has a text called label."
            + " A thing has a number called weight. The tin is a thing. Liking relates various things to one thing. The verb to like means the liking relation."
            + " Owning relates one thing to various things. The verb to own means the owning relation. Knowing relates various things to various things."
            + " The verb to know means the knowing relation. The tin likes the player. The player owns the tin. The player knows the player."
            + " Before taking: now the noun is lit. Before dropping: now the noun is not lit; now the noun is blue."
            + " Before examining: now the label of noun is \"xyz\"; now the weight of noun is 7; now the tint of noun is red."
            + " Before waiting: now the tin likes the tin; now the tin owns the tin; now the player knows the tin.");
        C.x.act(TAKE, 1);
        C.due("now lit", C.x.is(1, 2), 1);
        C.due("not dark", C.x.is(1, 3), 0);
        C.x.act(DROP, 1);
        C.due("not lit", C.x.is(1, 2), 0);
        C.due("now dark", C.x.is(1, 3), 1);
        C.due("blue", C.x.property(1, 1), 1);
        C.x.act(EXAMINE, 1);
        C.due("label", C.text(1, 2), "xyz");
        C.due("weight", C.x.property(1, 3), 7);
        C.due("red", C.x.property(1, 1), 0);
        C.x.act(WAIT, NONE);
        C.due("likes one only", C.x.related(0, 1, 0), false);
        C.due("likes the tin", C.x.related(0, 1, 1), true);
        C.due("owned by one only", C.x.related(1, 0, 1), false);
        C.due("owned by the tin", C.x.related(1, 1, 1), true);
        C.due("knows", C.x.related(2, 0, 1), true);
        C.due("still knows", C.x.related(2, 0, 0), true);
    }

    /** What is so now is all that is otherwise. */
    private static void nothingElse() {
        C.of("5: now: so it is then");
        String story = "A thing can be lit or dark. Colour is a kind of value. Colour is red, blue. A thing has a colour called tint. A thing has a text called label."
            + " A thing has a number called weight. The tin is a thing. \"Tin.\" The bag is a container. The tin is in the bag. Liking relates one thing to one thing."
            + " The verb to like means the liking relation. Owning relates one thing to one thing. The verb to own means the owning relation. Knowing relates one thing to one thing."
            + " The verb to know means the knowing relation. The tin likes the bag. The tin owns the bag. The tin knows the bag. The label of tin is \"L\". The weight of tin is 5."
            + " The tint of tin is red. Before waiting: now the tin is @. ";
        String[] nows = {"fixed", "lit", "not lit", "blue"};
        int[][] due = {{1, 0, 0}, {0, 1, 0}, {0, 0, 0}, {0, 0, 1}};
        for (int i = 0; i < nows.length; i++) {
            C.good(story.replace("@", nows[i]));
            C.x.act(WAIT, NONE);
            unchanged(due[i][0], due[i][1], due[i][2]);
        }
        String[] others = {"label of tin is \"L\"", "weight of tin is 5", "tint of tin is red"};
        for (String other : others) {
            C.good(story.replace("tin is @", other));
            C.x.act(WAIT, NONE);
            unchanged(0, 0, 0);
        }
        C.good(story.replace("the tin is @", "the tin owns the bag"));
        C.x.act(WAIT, NONE);
        unchanged(0, 0, 0);
        C.good(story.replace("the tin is @", "the bag owns the bag").replace("The tin owns the bag.", ""));
        C.x.act(WAIT, NONE);
        C.due("the bag owns the bag", C.x.related(1, 2, 2), true);
        C.place(2, 0, NONE);
        C.good("The hall is a room. The tin is a thing. The bag is a container. Liking relates various things to one thing. The verb to like means the liking relation."
            + " Instead of waiting: now the tin likes the bag.");
        C.x.act(WAIT, NONE);
        C.due("the tin likes the bag", C.x.related(0, 2, 3), true);
        C.place(2, 0, NONE);
        C.place(3, 0, NONE);
        C.good(story.replace("now the tin is @", "move the tin to the bag; increase the weight of tin by 0; decrease the weight of tin by 0"));
        C.x.act(WAIT, NONE);
        unchanged(0, 0, 0);
    }

    private static void unchanged(int fixed, int lit, int tint) {
        C.due("fixed", C.x.is(1, 0), fixed);
        C.due("portable", C.x.is(1, 1), 1 - fixed);
        C.due("lit", C.x.is(1, 2), lit);
        C.due("dark", C.x.is(1, 3), 1 - lit);
        C.due("description", C.text(1, 0), "Tin.");
        C.due("tint", C.x.property(1, 1), tint);
        C.due("label", C.text(1, 2), "L");
        C.due("weight", C.x.property(1, 3), 5);
        C.place(1, 1, 2);
        C.place(2, 0, NONE);
        for (int r = 0; r < 3; r++) {
            C.due("related(" + r + ", 1, 2)", C.x.related(r, 1, 2), true);
        }
        C.due("the bag is not fixed", C.x.is(2, 0), 0);
    }

    private static void longestNames() {
        C.of("5: an object's words, small, a blank between; .. a value's words");
        String name = "Abcdefghijkl mnopqrstuvwx yzabcdefghij";
        C.good("Colour is a kind of value. Colour is Zbcdefghijkl mnopqrstuvwx yzabcdefghij. A thing has a colour called abcdefghijkl abcdefghijkl abcdefghijkl. The " + name
            + " is a thing. Instead of waiting: say \"<[the " + name + "]>[the abcdefghijkl abcdefghijkl abcdefghijkl of player]\".");
        C.act(WAIT, NONE, 2, "<" + name.toLowerCase() + ">zbcdefghijkl mnopqrstuvwx yzabcdefghij\n");
    }

    private static void relationsNow() {
        String story = "Anna, Bert, tin and pot are a thing. Liking relates @ thing to # thing. The verb to like means the liking relation. Anna likes the tin. Bert likes the pot."
            + " Instead of waiting: now anna likes the pot. ";
        C.of("5: now: .. of a relation with one others end");
        String[] ones = {"various", "one"};
        for (int from = 0; from < 2; from++) {
            for (int to = 0; to < 2; to++) {
                C.good(story.replace("@", ones[from]).replace("#", ones[to]));
                C.act(WAIT, NONE, 2, "");
                C.due("anna likes the pot", C.x.related(0, 1, 4), true);
                C.due("anna likes the tin", C.x.related(0, 1, 3), to == 0);
                C.due("bert likes the pot", C.x.related(0, 2, 4), from == 0);
                C.act(WAIT, NONE, 2, "");
                C.due("anna likes the pot still", C.x.related(0, 1, 4), true);
            }
        }
    }

    private static void moves() {
        C.of("5: move: to a room or container: in it; to a supporter: on it; to a person: carried; else part of it; nothing, if it would be within itself");
        C.good("The hall is a room. The bag is a container. The mat is a supporter. Anna is a person. The tin is a thing. The lid is a thing."
            + " Before taking: move the tin to the noun. Before dropping: move the tin to the hall. Before waiting: move the bag to the tin.");
        C.x.act(TAKE, 3);
        C.place(5, 2, 3);
        C.x.act(TAKE, 4);
        C.place(5, 4, 4);
        C.x.act(TAKE, 6);
        C.place(5, 3, 6);
        C.x.act(TAKE, 5);
        C.place(5, 4, 0);
        C.x.act(DROP, 0);
        C.place(5, 1, 1);
        C.x.act(TAKE, 2);
        C.place(5, 1, 2);
        C.x.act(WAIT, NONE);
        C.place(2, 4, 0);
    }

    private static void ringsByMove() {
        String story = "The hall is a room. The bag is a container in the hall. The tin is a container in the bag. The mat is a supporter in the tin. The pea is a thing on the mat."
            + " Anna is a person in the hall. Before taking: move the bag to the noun. Before dropping: move the noun to the noun. Before examining: move anna to the noun. ";
        C.of("5: move: .. nothing, if it would be within itself");
        for (int noun = 2; noun <= 5; noun++) {
            C.good(story);
            C.act(EXAMINE, 6, 0, "\n");
            C.place(6, 1, 1);
            C.x.act(TAKE, noun);
            C.place(2, noun == 2 ? 4 : 1, noun == 2 ? 0 : 1);
            C.x.act(DROP, 6);
            C.place(6, 1, 1);
        }
        C.good(story);
        int[] how = {4, NONE, 1, 1, 2, 3};
        for (int noun = 0; noun < how.length; noun++) {
            if (noun != 1) {
                C.act(EXAMINE, noun, 0, "\n");
                C.place(6, how[noun], noun);
            }
        }
        C.of("5: move: to a room or container: in it");
        C.good(story + "A cave is a kind of room. The den is a cave. Instead of waiting: move the pea to the den. A case is a kind of container. The box is a case."
            + " Instead of going: move the pea to the box.");
        C.act(WAIT, NONE, 2, "");
        C.place(5, 1, 7);
        C.act(GO, 0, 2, "");
        C.place(5, 1, 8);
    }

    private static void bounds() {
        String story = "A thing has a number called weight. The weight of player is 999998. Before waiting: @ the weight of player by #. ";
        C.of("5: increase, decrease: kept within -999999 .. 999999");
        String up = story.replace("@", "increase");
        C.good(up.replace("#", "1"));
        C.x.act(WAIT, NONE);
        C.due("to the most", C.x.property(0, 1), 999999);
        C.x.act(WAIT, NONE);
        C.due("beyond it", C.x.property(0, 1), 999999);
        C.good(up.replace("#", "2"));
        C.x.act(WAIT, NONE);
        C.due("beyond it", C.x.property(0, 1), 999999);
        C.good(up.replace("#", "0"));
        C.x.act(WAIT, NONE);
        C.due("by 0", C.x.property(0, 1), 999998);
        C.good(up.replace("#", "999999"));
        C.x.act(WAIT, NONE);
        C.due("by the most", C.x.property(0, 1), 999999);
        String down = story.replace("@", "decrease").replace("999998", "1");
        int[] by = {1, 2, 999999, 999999, 999999};
        int[] due = {0, -1, -999998, -999999, -999999};
        for (int i = 0; i < by.length; i++) {
            C.good(down.replace("#", Integer.toString(by[i])));
            for (int n = 0; n < Math.max(1, i - 1); n++) {
                C.x.act(WAIT, NONE);
            }
            C.due("down by " + by[i] + ", " + Math.max(1, i - 1) + " times", C.x.property(0, 1), due[i]);
        }
        C.good("A thing has a number called weight. The weight of thing is 5. The tin is a thing. Before taking: increase the weight of noun by 3.");
        C.x.act(TAKE, 1);
        C.due("from what was told of its kind", C.x.property(1, 1), 8);
        C.due("of no other", C.x.property(0, 1), 5);
    }

    private static void numbers() {
        C.of("5: increase, decrease: kept within -999999 .. 999999");
        C.good("A thing has a number called weight. The tin is a thing. Before taking: increase the weight of noun by 999999. Before dropping: decrease the weight of noun by 999999."
            + " Before examining: say \"[the weight of noun]\". Before waiting: decrease the weight of tin by 1."
            + " Aa, bb, cc, dd, ee, ff and gg are a thing. The weight of aa is 9. The weight of bb is 10. The weight of cc is 11. The weight of dd is 99."
            + " The weight of ee is 100. The weight of ff is 101. The weight of gg is 123456.");
        int[] numbers = {9, 10, 11, 99, 100, 101, 123456};
        for (int i = 0; i < numbers.length; i++) {
            C.act(EXAMINE, 2 + i, 0, numbers[i] + "\n\n");
        }
        C.x.act(WAIT, NONE);
        C.due("-1", C.x.property(1, 1), -1);
        C.act(EXAMINE, 1, 0, "-1\n\n");
        C.x.act(TAKE, 1);
        C.due("999998", C.x.property(1, 1), 999998);
        C.x.act(TAKE, 1);
        C.due("999999", C.x.property(1, 1), 999999);
        C.act(EXAMINE, 1, 0, "999999\n\n");
        C.x.act(DROP, 1);
        C.x.act(DROP, 1);
        C.x.act(DROP, 1);
        C.due("-999999", C.x.property(1, 1), -999999);
        C.act(EXAMINE, 1, 0, "-999999\n\n");
    }

    private static void tries() {
        C.of("5: try: that ACTION (when eight lie within one another, or the THING is not of the action's kind, nothing)");
        C.good("The hall is a room. Anna is a person in the hall. The tin is a thing in the hall. Greeting is an action applying to one person. Rubbing is an action."
            + " Before greeting: say \"hi [noun]\". Instead of rubbing: try greeting the hall; try greeting tin; try greeting Anna; try taking the tin; say \"end\"."
            + " Before dropping: try examining noun; stop. Before examining: say \"x\"; stop. After taking: say \"took\".");
        C.act(6, NONE, 2, "hi anna\ntook\nend\n");
        C.place(3, 4, 0);
        C.act(DROP, 3, 1, "x\n");
        C.act(DROP, 2, 1, "x\n");
        // Eight actions lie within one another, and no more.
        C.good("Instead of waiting: say \"w\"; try waiting; say \"v\".");
        C.act(WAIT, NONE, 2, Checks.times("w\n", 8) + Checks.times("v\n", 8));
        C.good("Rubbing is an action. Every turn: say \"e\"; try waiting. Instead of waiting: say \"w\"; try waiting.");
        C.act(5, NONE, 0, "e\n" + Checks.times("w\n", 8));
    }

    private static void triedKinds() {
        C.of("5: try: .. or the THING is not of the action's kind, nothing");
        C.good("The hall is a room. A box is a kind of container. The crate is a box in the hall. The bag is a container in the hall. Rubbing is an action applying to one box."
            + " Before rubbing: say \"r [noun]\". Instead of examining: try rubbing noun; try rubbing the hall; try rubbing crate; try taking hall; try taking the noun.");
        C.act(EXAMINE, 2, 2, "r crate\nr crate\n");
        C.place(2, 4, 0);
        C.act(EXAMINE, 3, 2, "r crate\n");
        C.place(3, 4, 0);
        C.of("5: try: that ACTION (when eight lie within one another .. nothing)");
        StringBuilder s = new StringBuilder(Checks.words(0, 7)).append(" are an action. Before waiting: say \"w\". Instead of waiting: try waa. ");
        for (int i = 0; i < 7; i++) {
            s.append("Before ").append(Checks.word(i)).append(": say \"").append(i).append("\". Instead of ").append(Checks.word(i)).append(": try ")
                .append(i < 6 ? Checks.word(i + 1) : "waiting").append(". ");
        }
        C.good(s.toString());
        C.act(WAIT, NONE, 2, "w\n0\n1\n2\n3\n4\n5\n6\n");
        C.act(5, NONE, 2, "0\n1\n2\n3\n4\n5\n6\nw\n");
        C.good(s + "Every turn: try waiting.");
        C.act(GO, 0, 3, "w\n0\n1\n2\n3\n4\n5\n6\n");
        C.good("Instead of waiting: try taking player. Instead of taking: try dropping noun. Instead of dropping: try examining noun. Before examining: say \"x\"; try waiting; say \"y\".");
        C.act(WAIT, NONE, 2, "x\nx\ny\n\ny\n\n");
    }

    private static void ends() {
        C.of("5: Of a TURN's PHRASES the 301st is not done: the TURN ends there");
        C.good("Instead of waiting: say \"a\"; try waiting; try waiting.");
        C.x.clear();
        C.due("ended", C.x.act(WAIT, NONE), 5);
        String said = C.said();
        C.due("says", said.length() / 2, 300 - tries(300));
        C.good("A thing has a number called weight. Before waiting: " + Checks.times("increase the weight of player by 1; ", 7) + "stop."
            + " Every turn: try waiting." + Checks.times(" Every turn: try waiting; try waiting; try waiting; try waiting.", 10));
        C.due("ended in every turn", C.x.act(GO, 0), 5);
        // One turn of waiting: 8 phrases and a try.
        C.due("phrases done", C.x.property(0, 1), increased());
        C.good("A thing has a number called weight. Instead of waiting: increase the weight of player by 1; try waiting; try waiting; stop. After taking: stop."
            + " Every turn: say \"e\".");
        C.due("the 301st is not done", C.x.act(WAIT, NONE), 5);
        C.due("no every turn", C.x.outs(), 0);
        C.due("as ever behind that", C.x.act(GO, 0), 3);
        C.due("every turn", C.x.outs(), 2);
        // Five tries with 59 phrases each: 300 are done, one more is not.
        String fourTries = Checks.times("try waiting; ", 4);
        String waits = Checks.times("Before waiting: " + Checks.times("say \"\"; ", 7) + "say \"\". ", 7);
        C.good("Rubbing is an action. " + waits + "Before waiting: say \"\"; say \"\"; say \"\". Instead of rubbing: " + fourTries + "try waiting.");
        C.due("300 phrases", C.x.act(5, NONE), 2);
        C.due("lines", C.x.clear(), 295);
        C.good("Rubbing is an action. " + waits + "Before waiting: say \"\"; say \"\"; say \"\". Instead of rubbing: " + fourTries + "try waiting; stop.");
        C.due("301 phrases", C.x.act(5, NONE), 5);
    }

    /** How many of the first n phrases of "say; try; try", eight deep, are tries. */
    private static int tries(int n) {
        int[] left = {n, 0};
        walk(1, left);
        return left[1];
    }

    private static void walk(int depth, int[] left) {
        left[0]--;
        for (int i = 0; i < 2; i++) {
            if (left[0] <= 0) {
                return;
            }
            left[0]--;
            left[1]++;
            if (depth < 8) {
                if (left[0] <= 0) {
                    return;
                }
                walk(depth + 1, left);
            }
        }
    }

    /** 300 phrases: each try with the eight of its rule, seven of which add one. */
    private static int increased() {
        int added = 0;
        int phrase = 0;
        while (phrase < 300) {
            phrase++;
            for (int i = 0; i < 8 && phrase < 300; i++) {
                phrase++;
                added += i < 7 ? 1 : 0;
            }
        }
        return added;
    }

    /** A TURN of rubbing that does so many PHRASES: 8 a rule of before, and the others of one of every turn. */
    private static String phrases(int n, String last) {
        String eight = Checks.times("say \"\"; ", 7) + "say \"\". ";
        StringBuilder s = new StringBuilder("Rubbing is an action. Instead of rubbing: ").append(Checks.times("try waiting; ", 7)).append("try waiting. ");
        // Eight tries and 8 times 32: 264. The others come in five rules of every turn.
        s.append(Checks.times("Before waiting: " + eight, 4));
        int left = n - 264;
        while (left > 8) {
            s.append("Every turn: ").append(eight);
            left -= 8;
        }
        return s.append("Every turn: ").append(Checks.times("say \"\"; ", left - 1)).append(last).append(". ").toString();
    }

    private static void lastPhrases() {
        C.of("5: Of a TURN's PHRASES the 301st is not done: the TURN ends there");
        String[] lasts = {"say \"\"", "stop", "now the player is fixed", "move the player to the player", "try waiting"};
        for (int i = 0; i < 4; i++) {
            C.good(phrases(300, lasts[i]));
            C.due("300 PHRASES", C.x.act(5, NONE), 2);
            C.due("said", C.x.outs(), i == 0 ? 292 : 291);
            C.due("fixed", C.x.is(0, 0), i == 2 ? 1 : 0);
            C.good(phrases(301, lasts[i]));
            C.due("301 PHRASES", C.x.act(5, NONE), 5);
            C.due("said", C.x.outs(), 292);
            C.due("fixed", C.x.is(0, 0), 0);
            C.due("the next TURN has its own", C.x.act(0, NONE), 0);
        }
        C.good(phrases(300, "say \"\"") + "Every turn: say \"last\".");
        C.due("ended in every turn", C.x.act(5, NONE), 5);
        C.due("said", C.x.outs(), 292);
        C.of("16: 5 it ENDS by the 301st PHRASE (ahead of all)");
        String deep = "try waiting; try waiting; try waiting; try waiting";
        C.good("Before waiting: " + deep + "; stop.");
        C.due("ahead of stop in before", C.x.act(0, NONE), 5);
        C.good("Instead of waiting: " + deep + ".");
        C.due("ahead of instead", C.x.act(0, NONE), 5);
        C.good("After waiting: " + deep + "; stop.");
        C.due("ahead of stop in after", C.x.act(0, NONE), 5);
        C.good("Before taking: try waiting. Instead of waiting: " + deep + ". Every turn: say \"e\".");
        C.due("ahead of what FAILED", C.x.act(1, 0), 5);
        C.due("nothing more", C.x.outs(), 0);
        C.good("The tin is a thing. Before taking: try waiting. Instead of waiting: " + deep + ".");
        C.due("what is done is not done", C.x.act(1, 1), 5);
        C.place(1, 0, NONE);
    }
}
