/** Promises 8 to 14: kinds, objects, adjectives, properties, ways and relations behind a story. */
public final class WorldTest {
    private static final Checks C = new Checks();
    private static final int NONE = RuleSentences.NONE;

    public static void main(String[] args) {
        kinds();
        objects();
        adjectives();
        defined();
        definedAnew();
        definedAlone();
        placeTests();
        properties();
        ways();
        relations();
        C.end("WorldTest");
    }

    private static void kinds() {
        C.of("2: A kind has what it, and all above it, were told to have");
        C.good("A box is a kind of container. A crate and bin are a kind of box. A mat is a kind. A cave is a kind of room."
            + " A box can be open or shut. A thing has a number called weight. A crate has a number called weight."
            + " A bin has a text called label. Definition: a crate is odd if it is fixed.");
        int[][] due = {{NONE, 2, 2}, {NONE, 1, 0}, {0, 2, 2}, {0, 2, 2}, {0, 2, 2}, {2, 2, 4}, {5, 2, 5}, {5, 3, 4}, {0, 2, 2},
            {1, 1, 0}};
        for (int i = 0; i < due.length; i++) {
            for (int what = 0; what < 3; what++) {
                C.due("kind(" + i + ", " + what + ")", C.x.kind(i, what), due[i][what]);
            }
        }
        C.due("kind(10, 0)", C.x.kind(10, 0), NONE);
        C.due("kind(-1, 1)", C.x.kind(-1, 1), NONE);
        C.due("kind(5, 3)", C.x.kind(5, 3), NONE);
        C.due("kind(5, -1)", C.x.kind(5, -1), NONE);
    }

    private static void objects() {
        C.of("4: Who has no place is nowhere; the player is in the first room (the lowest number), if nothing else was told");
        C.good("The table is a supporter. Anna is a person. The hall is a room. The tin is a container on the table."
            + " The pea is in the tin. The lid is part of the tin. The cap is worn by Anna. The key is carried by Anna."
            + " Anna is in the hall.");
        C.place(0, 1, 3);
        C.place(1, 0, NONE);
        C.place(2, 1, 3);
        C.place(3, 0, NONE);
        C.place(4, 2, 1);
        C.place(5, 1, 4);
        C.place(6, 3, 4);
        C.place(7, 5, 2);
        C.place(8, 4, 2);
        C.due("kind of the pea", C.x.object(5, 0), 0);
        C.due("kind of the tin", C.x.object(4, 0), 2);
        C.due("object(9, 0)", C.x.object(9, 0), NONE);
        C.due("object(-1, 0)", C.x.object(-1, 0), NONE);
        C.due("object(1, 3)", C.x.object(1, 3), NONE);
        C.due("object(1, -1)", C.x.object(1, -1), NONE);
        C.good("The hall is a room. The yard is a room. The player is in the yard.");
        C.place(0, 1, 2);
        C.good("Anna is a person. The player is carried by Anna. The hall is a room.");
        C.place(0, 4, 1);
        C.good("The lamp is a thing.");
        C.place(0, 0, NONE);
        // The first room by its number, though another one was told to be a room first.
        C.good("The tin is a thing. The hall is a room. A cave is a kind of room. The den is a cave.");
        C.place(0, 1, 2);
    }

    private static void adjectives() {
        C.of("4: an adjective holds of an object as told of it, else as told of its kind, or the nearest one above; else of two contrary ones the second");
        C.good("A box is a kind. A crate is a kind of box. A thing can be old or new. The tin is a thing. The bag is a box."
            + " The bin and the tub are crates. The hall is a room. A thing is usually old. A box is usually new."
            + " The bin is old. The tin is not portable.");
        int[][] due = {{0, 1, 1, 0}, {1, 0, 1, 0}, {0, 1, 0, 1}, {0, 1, 1, 0}, {0, 1, 0, 1}};
        for (int i = 0; i < due.length; i++) {
            for (int a = 0; a < 4; a++) {
                C.due("is(" + i + ", " + a + ")", C.x.is(i, a), due[i][a]);
            }
        }
        C.due("is() of a room", C.x.is(5, 0), NONE);
        C.due("is(-1, 0)", C.x.is(-1, 0), NONE);
        C.due("is(6, 0)", C.x.is(6, 0), NONE);
        C.due("is(0, 4)", C.x.is(0, 4), NONE);
        C.due("is(0, -1)", C.x.is(0, -1), NONE);
        C.good("A box is a kind. A box can be open or shut. The bag is a box.");
        C.due("the second of two holds", C.x.is(1, 3), 1);
        C.due("the first does not", C.x.is(1, 2), 0);
        C.due("not of its kind", C.x.is(0, 2), NONE);
        C.good("A box is a kind. A box can be open or shut. The bag, the bin are open boxs.");
        C.due("a plural DESCRIPTION", C.x.is(2, 2), 1);
    }

    private static void defined() {
        C.of("4: A DEFINED adjective holds, when the object is of its kind and all its TESTS hold for it");
        String tests = "Colour is a kind of value. Colour is red, blue. A thing has a colour called tint. A thing has a number called weight."
            + " The hall is a room. The tin is a blue thing in the hall. The weight of tin is 3. Liking relates various things to various things."
            + " The verb to like means the liking relation. The tin likes the player. The player likes the tin."
            + " The description of the tin is \"Tin\". The bag is a thing. ";
        C.good(tests + "Definition: a thing is aa if it is blue. Definition: a thing is bb if the tint of it is not red."
            + " Definition: a thing is cc if the weight of it is more than 2. Definition: a thing is dd if the weight of it is less than 3."
            + " Definition: a thing is ee if the weight of it is 3. Definition: a thing is ff if it is in the hall and it is not fixed."
            + " Definition: a thing is gg if it is not in the hall. Definition: a thing is hh if it likes the player."
            + " Definition: a thing is ii if the player likes it. Definition: a thing is jj if the description of it is \"Tin\"."
            + " Definition: a thing is kk if it is aa and it is not gg. Definition: a person is ll if it is fixed."
            + " Definition: a thing is mm if the description of it is not \"tin\" and the description of it is not \"Ti\".");
        int[] tin = {1, 1, 1, 0, 1, 1, 0, 1, 1, 1, 1, NONE, 1};
        int[] player = {0, 0, 0, 1, 0, 1, 0, 0, 0, 0, 0, 0, 1};
        int[] bag = {0, 0, 0, 1, 0, 0, 1, 0, 0, 0, 0, NONE, 1};
        for (int i = 0; i < tin.length; i++) {
            C.due("is(tin, " + (i + 2) + ")", C.x.is(2, i + 2), tin[i]);
            C.due("is(player, " + (i + 2) + ")", C.x.is(0, i + 2), player[i]);
            C.due("is(bag, " + (i + 2) + ")", C.x.is(3, i + 2), bag[i]);
        }
        C.due("a room is not of its kind", C.x.is(1, 2), NONE);
        C.of("4: (when eight lie within one another, the ninth does not hold)");
        StringBuilder chain = new StringBuilder("Definition: a thing is waa if it is portable. ");
        for (int i = 1; i < 10; i++) {
            chain.append("Definition: a thing is ").append(Checks.word(i)).append(" if it is ").append(Checks.word(i - 1)).append(". ");
        }
        C.good(chain + "Definition: a thing is far if it is not wah.", 11);
        C.due("eight within one another", C.x.is(0, 2 + 7), 1);
        C.due("nine within one another", C.x.is(0, 2 + 8), 0);
        C.due("ten within one another", C.x.is(0, 2 + 9), 0);
        C.due("the ninth does not hold", C.x.is(0, 2 + 10), 1);
        C.good(chain + "Before waiting when the player is wah: say \"8\". Before waiting when the player is wai: say \"9\"."
            + " Before waiting when the player is not wah: say \"not 8\". Before waiting when the player is not wai: say \"not 9\"."
            + " Before taking a wah thing: say \"8\". Before taking a wai thing: say \"9\". Before taking a person when noun is wah: say \"noun 8\".");
        C.due("waiting", C.x.act(0, NONE), 0);
        C.due("what is said", C.said(), "8\nnot 9\n");
        C.due("taking", C.x.act(1, 0), 3);
        C.due("what is said", C.said(), "noun 8\n8\n");
        // Six TESTS in each of eight, and two of them not the first: each object has an answer of its own.
        StringBuilder wide = new StringBuilder("The tin is a fixed thing. Definition: a thing is waa if it is portable. ");
        for (int i = 1; i < 8; i++) {
            String test = " is " + Checks.word(i - 1);
            wide.append("Definition: a thing is ").append(Checks.word(i)).append(" if it").append(Checks.times(test + " and it", 4)).append(test)
                .append(" and the player").append(test).append(". ");
        }
        C.good(wide + "Definition: a thing is odd if it is not wah. Definition: a thing is even if it is not wah and the tin is not wah and the player is wah.");
        C.due("the player is wah", C.x.is(0, 9), 1);
        C.due("the tin is not wah", C.x.is(1, 9), 0);
        C.due("the player is not odd, eight deep", C.x.is(0, 10), 1);
        C.due("the tin is odd", C.x.is(1, 10), 1);
        C.due("the tin is even", C.x.is(1, 11), 0);
    }

    /** What DEFINED adjectives are asked of changes, and so do they. */
    private static void definedAnew() {
        C.of("4: A DEFINED adjective holds, when .. all its TESTS hold for it (then)");
        C.good("A thing has a number called weight. The tin is a thing. Definition: a thing is big if the weight of it is more than 1. Definition: a thing is huge if it is big"
            + " and the weight of it is more than 2. Definition: a thing is odd if it is big and the player is not big and it is big and tin is big and player is not big."
            + " Before taking: increase the weight of noun by 1. Before dropping: decrease the weight of noun by 1. Before examining: increase the weight of noun by 1; try waiting;"
            + " decrease the weight of noun by 2; try waiting. Before waiting when the tin is big: say \"big\". Before waiting when the tin is not big: say \"not big\"."
            + " Before waiting when the tin is huge: say \"huge\".");
        int[] big = {0, 0, 1, 1, 1};
        int[] huge = {0, 0, 0, 1, 1};
        for (int n = 0; n < 5; n++) {
            C.due("big at " + n, C.x.is(1, 2), big[n]);
            C.due("huge at " + n, C.x.is(1, 3), huge[n]);
            C.due("odd at " + n, C.x.is(1, 4), big[n]);
            C.due("the player is not big", C.x.is(0, 2), 0);
            C.due("nor odd", C.x.is(0, 4), 0);
            C.x.act(1, 1);
        }
        for (int n = 5; n >= 0; n--) {
            C.due("big at " + n, C.x.is(1, 2), n > 1 ? 1 : 0);
            C.due("huge at " + n, C.x.is(1, 3), n > 2 ? 1 : 0);
            C.due("odd at " + n, C.x.is(1, 4), n > 1 ? 1 : 0);
            C.x.act(2, 1);
        }
        C.act(0, NONE, 0, "not big\n");
        C.x.act(1, 1);
        C.x.act(1, 1);
        C.act(3, 1, 0, "big\nnot big\n\n");
        C.x.act(1, 1);
        C.x.act(1, 1);
        C.act(3, 1, 0, "big\nhuge\nnot big\n\n");
        C.x.act(1, 1);
        C.x.act(1, 1);
        C.x.act(1, 1);
        C.act(3, 1, 0, "big\nhuge\nbig\nhuge\n\n");
    }

    private static void definedAlone() {
        C.of("4: A DEFINED adjective holds, when .. all its TESTS hold for it (then; no other one is asked)");
        C.good("The tin is a thing. Definition: a thing is loose if it is portable. Before waiting: now the tin is fixed. Before examining: now the tin is portable."
            + " Before dropping when the tin is loose: say \"loose\". Before dropping when the tin is not loose: say \"stuck\".");
        for (int i = 0; i < 3; i++) {
            C.due("loose", C.x.is(1, 2), 1);
            C.act(2, 1, 3, "loose\n");
            C.x.act(0, NONE);
            C.due("not loose", C.x.is(1, 2), 0);
            C.act(2, 1, 3, "stuck\n");
            C.x.act(3, 1);
        }
    }

    private static void placeTests() {
        C.of("4: A TEST of a PLACE: it is there itself, in that way");
        C.good("The hall is a room. The bag is a container in the hall. The mat is a supporter in the bag. The tin is a container on the mat. The lid is part of the tin."
            + " Anna is a person in the hall. The cap is worn by anna. The key is carried by anna. The yard is a room."
            + " Definition: a thing is aa if it is in the hall. Definition: a thing is bb if it is in the bag. Definition: a thing is cc if it is on the mat."
            + " Definition: a thing is dd if it is part of the tin. Definition: a thing is ee if it is worn by anna. Definition: a thing is ff if it is carried by anna."
            + " Definition: a thing is gg if it is not in the hall. Definition: a thing is hh if it is in it. Definition: a room is ii if bag is in it."
            + " Definition: a thing is jj if it is part of anna. Definition: a thing is kk if it is in tin. Definition: a room is ll if it is not in it.");
        // Of each object the one of 2 .. 7, 11 and 12 that holds; gg (8) holds of all that are not in the hall.
        int[] held = {2, NONE, 2, 3, 4, 5, 2, 6, 7};
        int[] asked = {2, 3, 4, 5, 6, 7, 8, 9, 11, 12};
        for (int i = 0; i < held.length; i++) {
            for (int a : asked) {
                int due = a == held[i] || a == 8 && held[i] != 2 ? 1 : 0;
                C.due("is(" + i + ", " + a + ")", C.x.is(i, a), i == 1 ? NONE : due);
            }
        }
        C.due("the bag is in the hall", C.x.is(1, 10), 1);
        C.due("the bag is not in the yard", C.x.is(9, 10), 0);
        C.due("the hall is not in itself", C.x.is(1, 13), 1);
    }

    private static void properties() {
        C.of("4: Numbers, values, texts likewise; else 0, the TYPE's first value (NONE without), empty");
        C.good("Colour is a kind of value. Mood is a kind of value. Colour is red. Mood is sad and so. Colour is blue."
            + " Void is a kind of value. A thing has a mood called mind. A thing has a colour called tint. A thing has a void called gap."
            + " A box is a kind. A thing has a number called weight. A box has a text called label. The tin is a box. The hall is a room."
            + " The weight of thing is 4. The weight of tin is 999999. The mind of box is so. The label of the tin is \"x [y]\"."
            + " The description of thing is \"A thing.\". The tint of player is blue.");
        C.due("number of a kind", C.x.property(0, 4), 4);
        C.due("number", C.x.property(1, 4), 999999);
        C.due("the first value", C.x.property(0, 1), 1);
        C.due("value of a kind", C.x.property(1, 1), 2);
        C.due("the first value", C.x.property(1, 2), 0);
        C.due("value", C.x.property(0, 2), 3);
        C.due("no value", C.x.property(1, 3), NONE);
        C.due("length of a text", C.x.property(1, 5), 5);
        C.due("text", C.text(1, 5), "x [y]");
        C.due("text of a kind", C.text(0, 0), "A thing.");
        C.due("letter(0, 0, 7)", C.x.letter(0, 0, 7), '.');
        C.due("letter(0, 0, 8)", C.x.letter(0, 0, 8), NONE);
        C.due("letter(0, 0, -1)", C.x.letter(0, 0, -1), NONE);
        C.due("letter of a number", C.x.letter(1, 4, 0), NONE);
        C.due("a text of another kind", C.x.letter(0, 5, 0), NONE);
        C.due("letter(3, 0, 0)", C.x.letter(3, 0, 0), NONE);
        C.due("letter(-1, 0, 0)", C.x.letter(-1, 0, 0), NONE);
        C.due("letter(0, 6, 0)", C.x.letter(0, 6, 0), NONE);
        C.due("a property of another kind", C.x.property(0, 5), NONE);
        C.due("a property of another kind", C.x.property(2, 4), NONE);
        C.due("an empty text", C.x.property(2, 0), 0);
        C.due("property(3, 0)", C.x.property(3, 0), NONE);
        C.due("property(-1, 0)", C.x.property(-1, 0), NONE);
        C.due("property(0, 6)", C.x.property(0, 6), NONE);
        C.due("property(0, -1)", C.x.property(0, -1), NONE);
    }

    private static void ways() {
        C.of("4: From a room a way leads as told; else, of the ways told of a room B by the contrary direction that lead to this room, the first told: to B");
        C.good("The hall is a room. The yard is north of the hall. The den is up of the yard. The hall is east of the den."
            + " The attic is a room. The hall is north of the attic. The yard is south of the attic. The den is a room. The loft is a room."
            + " The yard is south of the loft. The tin is a thing.");
        C.due("as told", C.x.leads(1, 0), 2);
        C.due("back", C.x.leads(3, 5), 2);
        C.due("back from the hall", C.x.leads(1, 3), 3);
        C.due("back to the attic", C.x.leads(1, 1), 4);
        C.due("the first told", C.x.leads(2, 0), 4);
        C.due("back", C.x.leads(2, 1), 1);
        C.due("no way", C.x.leads(1, 4), NONE);
        C.due("from no room", C.x.leads(6, 0), NONE);
        C.due("leads(1, 6)", C.x.leads(1, 6), NONE);
        C.due("leads(1, -1)", C.x.leads(1, -1), NONE);
        C.due("leads(7, 0)", C.x.leads(7, 0), NONE);
        C.due("leads(-1, 0)", C.x.leads(-1, 0), NONE);
        C.good("The aa is a room. The bb is a room. The cc is a room. The aa is west of the cc. The aa is west of the bb.");
        C.due("the first told, of a higher number", C.x.leads(1, 2), 3);
        // As told goes ahead of the way back.
        C.good("Aa is a room. Bb is north of aa. Cc is south of bb.");
        C.due("as told", C.x.leads(2, 1), 3);
        C.due("as told", C.x.leads(1, 0), 2);
        C.due("back", C.x.leads(3, 0), 2);
    }

    private static void relations() {
        C.of("2: each of these to each of those");
        C.good("Anna and Bert are people. The tin is a thing. Liking relates various people to various things."
            + " The verb to like means the liking relation. The verb to love means the liking relation. Anna and the player like the tin, Bert."
            + " Bert loves Bert.");
        C.due("related(0, 1, 3)", C.x.related(0, 1, 3), true);
        C.due("related(0, 1, 2)", C.x.related(0, 1, 2), true);
        C.due("related(0, 0, 2)", C.x.related(0, 0, 2), true);
        C.due("related(0, 2, 2)", C.x.related(0, 2, 2), true);
        C.due("related(0, 2, 1)", C.x.related(0, 2, 1), false);
        C.due("related(0, 3, 1)", C.x.related(0, 3, 1), false);
        C.due("related(1, 1, 3)", C.x.related(1, 1, 3), false);
        C.due("related(-1, 1, 3)", C.x.related(-1, 1, 3), false);
        C.due("related(0, -1, 3)", C.x.related(0, -1, 3), false);
        C.due("related(0, 1, 4)", C.x.related(0, 1, 4), false);
        C.due("related(0, 33, 3)", C.x.related(0, 33, 3), false);
        C.due("related(0, 1, 35)", C.x.related(0, 1, 35), false);
    }
}
