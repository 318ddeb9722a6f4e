/** Promises 1 to 20, each by itself: what its call answers at its edges, and of arguments that are none such. */
public final class FaceTest {
    private static final Checks C = new Checks();
    private static final int NONE = RuleSentences.NONE;
    private static final int LEAST = Integer.MIN_VALUE;
    private static final int MOST = Integer.MAX_VALUE;
    /** A world with one or more of each sort: kind 5 box, TYPE 2 colour, objects 1 hall .. 4 Anna, adjectives 2 .. 4, values 0 and 1. */
    private static final String WORLD = "The hall is a room. A box is a kind of container. A box can be open or shut. Colour is a kind of value."
        + " The colours are dark red and blue. A box has a colour called tint. A thing has a number called weight. The box is usually open."
        + " The tin is an open box in the hall. \"A tin.\" The lid is part of the tin. Anna is a person in the hall. The weight of Anna is 999999."
        + " Definition: a box is light if the weight of it is less than 1. The yard is north of the hall."
        + " Liking relates various people to one thing. The verb to like means the liking relation. Anna likes the tin."
        + " Rubbing is an action applying to one box. Singing is an action. Understand \"rub [box]\" as rubbing."
        + " Before rubbing an open light box when noun is in hall: say \"r\"; stop. Every turn: say \"e\". ";

    public static void main(String[] args) {
        newObject();
        worldAtFirst();
        feed();
        feedBeyond();
        wipe();
        read();
        readSentences();
        fault();
        told();
        name();
        kind();
        object();
        is();
        property();
        letter();
        leads();
        related();
        rule();
        act();
        command();
        outs();
        C.end("FaceTest");
    }

    private static void newObject() {
        C.of("1: An empty TAPE");
        C.fresh();
        C.due("wipe()", C.x.wipe(), 0);
        C.fresh();
        C.due("feed(97, 1)", C.x.feed(97, 1), 1);
        C.fresh();
        C.due("read()", C.x.read(), -10);
        C.fresh();
        C.due("command()", C.x.command(), -2);
        C.of("1: OUT empty");
        C.fresh();
        C.due("outs()", C.x.outs(), 0);
        C.due("out(0)", C.x.out(0), NONE);
        C.due("clear()", C.x.clear(), 0);
        C.of("5: 0 before");
        C.due("fault()", C.x.fault(), 0);
    }

    private static void worldAtFirst() {
        C.fresh();
        askFirstWorld("1: the world as AT FIRST");
        C.good(WORLD);
        C.badAgain(2, "The hall is^");
        askFirstWorld("4: With a fault .. the world is as AT FIRST then");
    }

    private static void askFirstWorld(String sentence) {
        C.of(sentence);
        int[] counts = {5, 2, 1, 2, 0, 1, 0, 0, 5, 0, 7};
        for (int i = 0; i < counts.length; i++) {
            C.due("told(" + i + ")", C.x.told(i), counts[i]);
        }
        String[][] names = {{"thing", "room", "container", "supporter", "person"}, {"number", "text"}, {"player"}, {"fixed", "portable"}, {},
            {"description"}, {}, {}, {"waiting", "taking", "dropping", "examining", "going"}};
        for (int what = 0; what < names.length; what++) {
            for (int i = 0; i < names[what].length; i++) {
                C.due("name(" + what + ", " + i + ", ..)", C.name(what, i), names[what][i]);
            }
        }
        String[] plurals = {"things", "rooms", "containers", "supporters", "people"};
        int[][] kinds = {{NONE, 1, 2}, {NONE, 1, 0}, {0, 1, 2}, {0, 1, 2}, {0, 1, 2}};
        for (int i = 0; i < kinds.length; i++) {
            C.due("name(11, " + i + ", ..)", C.name(11, i), plurals[i]);
            for (int what = 0; what < 3; what++) {
                C.due("kind(" + i + ", " + what + ")", C.x.kind(i, what), kinds[i][what]);
            }
        }
        C.due("object(0, 0)", C.x.object(0, 0), 4);
        C.place(0, 0, NONE);
        C.due("is(0, 0)", C.x.is(0, 0), 0);
        C.due("is(0, 1)", C.x.is(0, 1), 1);
        C.due("property(0, 0)", C.x.property(0, 0), 0);
        C.due("leads(0, 0)", C.x.leads(0, 0), NONE);
        C.due("related(0, 0, 0)", C.x.related(0, 0, 0), false);
        C.due("rule(0, 0)", C.x.rule(0, 0), NONE);
        C.x.wipe();
        String[] typed = {"wait", "take player", "get player", "drop player", "examine player", "go north", "south", "east", "west", "up", "go down",
            "player", "wait player"};
        int[] due = {0, 3, 3, 3, 0, 3, 3, 3, 3, 3, 3, -2, -2};
        for (int i = 0; i < typed.length; i++) {
            C.due("command <" + typed[i] + ">", C.command(typed[i]), due[i]);
        }
        C.due("the player's description", C.said(), "\n");
    }

    private static void feed() {
        C.of("2: The n lowest bytes of w .. come behind the TAPE: how many it has");
        C.fresh();
        for (int n = 1; n <= 8; n++) {
            C.due("feed(.., " + n + ")", C.x.feed(0x2020202020202020L, n), n * (n + 1) / 2);
        }
        C.of("2: the highest of them first");
        C.fresh();
        C.x.feed(0x7878787877616974L, 4);
        C.due("command() of wait", C.x.command(), 0);
        C.x.feed(0x6578616d696e6520L, 8);
        C.x.feed(0x706c61796572L, 6);
        C.due("command() of examine player", C.x.command(), 0);
        C.of("2: the n lowest bytes, any");
        C.fresh();
        C.due("feed(-1, 8)", C.x.feed(-1, 8), 8);
        C.due("feed(least, 8)", C.x.feed(Long.MIN_VALUE, 8), 16);
        C.due("feed(0, 1)", C.x.feed(0, 1), 17);
        C.due("read() of bytes that are no token", C.x.read(), -10);
        C.due("fault()", C.x.fault(), 1);
        C.of("2: NONE: n is not 1 .. 8");
        C.x.feed(0x77616974L, 4);
        for (int n : new int[] {0, 9, -1, 10, 16, LEAST, MOST}) {
            C.due("feed(97, " + n + ")", C.x.feed(97, n), NONE);
        }
        C.due("command(), what was refused is not on the TAPE", C.x.command(), 0);
        C.due("feed(97, 1)", C.x.feed(97, 1), 1);
        C.due("feed(97, 0)", C.x.feed(97, 0), NONE);
        C.due("wipe()", C.x.wipe(), 1);
    }

    /** The only test that needs more calls of an object than 512: eight bytes a call are 4096 by then. */
    private static void feedBeyond() {
        C.of("2: NONE: .. there would be more than 5000");
        C.fresh();
        C.x.mayGoBeyond();
        for (int i = 0; i < 624; i++) {
            C.x.feed(0x2020202020202020L, 8);
        }
        C.due("feed() up to 4999", C.x.feed(0x20202020202020L, 7), 4999);
        C.due("feed() up to 5001", C.x.feed(0x6161, 2), NONE);
        C.due("feed() up to 5000", C.x.feed(0x20, 1), 5000);
        C.due("feed() up to 5001", C.x.feed(0x61, 1), NONE);
        C.due("feed() up to 5008", C.x.feed(0x6161616161616161L, 8), NONE);
        C.due("read() of blanks", C.x.read(), -5010);
        for (int i = 0; i < 625; i++) {
            C.x.feed(0x2020202020202020L, 8);
        }
        C.due("wipe() of a full TAPE", C.x.wipe(), 5000);
        C.due("feed() behind it", C.x.feed(0x20, 1), 1);
    }

    private static void wipe() {
        C.of("3: The TAPE is empty then: how many bytes it had");
        C.fresh();
        C.due("wipe() of nothing", C.x.wipe(), 0);
        C.x.feed(0, 1);
        C.due("wipe() of one byte", C.x.wipe(), 1);
        C.due("wipe() again", C.x.wipe(), 0);
        C.feed("The hall is a room.");
        C.due("wipe()", C.x.wipe(), 19);
        C.due("read() behind it", C.x.read(), -10);
        C.good(WORLD);
        C.feed("wait");
        C.x.wipe();
        C.due("the world stays", C.x.told(2), 6);
        C.due("command() behind it", C.x.command(), -2);
    }

    private static void read() {
        C.of("4: The TAPE .. (it .. empty then)");
        C.good("The hall is a room.", 1);
        C.due("wipe() behind read()", C.x.wipe(), 0);
        C.badAgain(2, "The hall is^");
        C.due("wipe() behind a fault", C.x.wipe(), 0);
        C.of("4: (.. and OUT are empty then)");
        C.x.act(3, 0);
        C.due("outs()", C.x.outs(), 1);
        C.again("The hall is a room.", 1);
        C.due("outs() behind read()", C.x.outs(), 0);
        C.due("out(0) behind read()", C.x.out(0), NONE);
        C.x.act(3, 0);
        C.badAgain(2, "^");
        C.due("outs() behind a fault", C.x.outs(), 0);
        C.of("4: the STORY of a new world");
        C.good(WORLD);
        C.again("The den is a room.", 1);
        int[] counts = {5, 2, 2, 2, 0, 1, 0, 0, 5, 0, 7};
        for (int i = 0; i < counts.length; i++) {
            C.due("told(" + i + ")", C.x.told(i), counts[i]);
        }
        C.due("object 1", C.name(2, 1), "den");
        C.due("leads(1, 0)", C.x.leads(1, 0), NONE);
        C.due("its description", C.x.property(1, 0), 0);
        C.place(0, 1, 1);
        C.again(WORLD + "The plural of thing is stuff.", 24);
        C.again("Anna and Bert are people. The hall is a room. The yard is a room. The tin is a container.", 4);
        C.due("plural 0", C.name(11, 0), "things");
        C.due("a kind of the old world", C.x.object(5, 0), 2);
        C.due("a place of the old world", C.x.object(5, 1), 0);
        C.due("a way of the old world", C.x.leads(3, 0), NONE);
        C.due("the rules of the old world", C.x.act(0, NONE), 0);
        C.due("say nothing", C.x.outs(), 0);
        C.due("a command of the old world", C.command("rub tin"), -2);
        C.badAgain(4, "A box is a kind. Colour is a kind of value. Colour is red. Liking relates various things to various things."
            + " A box has a colour called tint. A box can be open or shut. The ^tin is open.");
    }

    private static void readSentences() {
        C.of("4: how many sentences");
        C.good("The hall is a room.", 1);
        C.good("[one] The hall is a room. [two] \"Two.\" \"Two.\". [three] A box is a kind. [end]", 4);
        C.of("4: With a fault -10 less its place");
        C.bad(2, "^");
        C.bad(2, "^.");
        C.bad(1, "^-");
        C.bad(3, "^Thing is a kind.");
        C.bad(2, "The hall is a room^");
        C.bad(2, "The hall is a room \n^");
        C.bad(1, "The hall is a room. ^%");
    }

    private static void fault() {
        C.of("5: 1 to 9");
        String[] stories = {"^$", "^", "A ^thing is a kind.", "The hall is a ^frob.", "The hall is a room. The ^hall is a thing.",
            "The tin is a container. The ^tin is in the tin.",
            "Colour is a kind of value. Colour is red. A thing has a colour called tint. A thing has a colour called trim. The player is ^red.",
            "Every turn: say ^\"[\".", Checks.words(0, 11) + " are a kind. ^X is a kind."};
        for (int i = 0; i < stories.length; i++) {
            C.bad(i + 1, stories[i]);
        }
        C.of("5: The fault of the latest read()");
        C.again("The hall is a room.", 1);
        C.badAgain(2, "The hall^");
        C.x.feed(97, 1);
        C.x.wipe();
        C.x.command();
        C.x.act(0, NONE);
        C.x.clear();
        C.due("fault() behind other calls", C.x.fault(), 2);
        C.badAgain(4, "The hall is a ^frob.");
        C.of("5: 0 without");
        C.again("The hall is a room.", 1);
    }

    private static void told() {
        C.of("6: How many there are");
        C.good(WORLD, 23);
        int[] counts = {6, 3, 6, 5, 2, 3, 1, 1, 7, 2, 8};
        for (int i = 0; i < counts.length; i++) {
            C.due("told(" + i + ")", C.x.told(i), counts[i]);
        }
        C.of("6: NONE: another what");
        for (int what : new int[] {-1, 11, 12, 13, 14, LEAST, MOST}) {
            C.due("told(" + what + ")", C.x.told(what), NONE);
        }
        C.of("6: 4 values of all TYPES");
        C.good("Colour is a kind of value. Mood is a kind of value. Colour is red, blue. Mood is sad. Void is a kind of value.", 5);
        C.due("told(4)", C.x.told(4), 3);
    }

    private static void name() {
        C.of("7: Byte k of the words of one of these, small, a blank between");
        C.good(WORLD);
        String[] names = {"box", "colour", "yard", "light", "dark red", "weight", "liking", "like", "singing"};
        int[] last = {5, 2, 5, 4, 0, 2, 0, 0, 6};
        for (int what = 0; what < names.length; what++) {
            C.due("name(" + what + ", " + last[what] + ", ..)", C.name(what, last[what]), names[what]);
        }
        C.due("name(2, 4, ..)", C.name(2, 4), "anna");
        C.of("7: NONE: none such");
        int[][] none = {{-1, 0, 0}, {9, 0, 0}, {10, 0, 0}, {12, 0, 0}, {13, 0, 0}, {14, 0, 0}, {LEAST, 0, 0}, {MOST, 0, 0},
            {0, -1, 0}, {0, 6, 0}, {0, LEAST, 0}, {0, MOST, 0}, {1, 3, 0}, {2, 6, 0}, {3, 5, 0}, {4, 2, 0}, {5, 3, 0}, {6, 1, 0}, {7, 1, 0}, {8, 7, 0},
            {11, -1, 0}, {11, 6, 0}, {0, 5, -1}, {0, 5, 3}, {0, 5, LEAST}, {0, 5, MOST}, {4, 0, 8}, {11, 5, 4}, {7, 0, 4}};
        for (int[] n : none) {
            C.due("name(" + n[0] + ", " + n[1] + ", " + n[2] + ")", C.x.name(n[0], n[1], n[2]), NONE);
        }
        C.of("7: words at their longest");
        String longest = "abcdefghijkl abcdefghijkl abcdefghijkl";
        C.good("The " + longest + " is a thing.");
        C.due("object 1", C.name(2, 1), longest);
        C.due("name(2, 1, 37)", C.x.name(2, 1, 37), 'l');
        C.due("name(2, 1, 38)", C.x.name(2, 1, 38), NONE);
        C.of("7: words at their shortest");
        C.good("The z is a thing. A b z y is a kind. Zz is a kind.");
        C.due("object 1", C.name(2, 1), "z");
        C.due("kind 5", C.name(0, 5), "b z y");
        C.due("plural 5", C.name(11, 5), "b z ys");
        C.due("plural 6", C.name(11, 6), "zzs");
        C.of("7: values as they are told, of all TYPES");
        C.good("Colour is a kind of value. Mood is a kind of value. Mood is sad. Colour is red. Mood is so and very so.");
        String[] values = {"sad", "red", "so", "very so"};
        for (int i = 0; i < values.length; i++) {
            C.due("value " + i, C.name(4, i), values[i]);
        }
        C.of("7: 11: of a kind's plural. NONE: none such");
        C.good("Box and boxs are a kind.");
        C.due("box has no plural", C.x.name(11, 5, 0), NONE);
        C.due("boxs has one", C.name(11, 6), "boxss");
    }

    private static void kind() {
        C.of("8: The kind above kind i (NONE), how many properties or adjectives, DEFINED ones, too, all with those of kinds above");
        C.good(WORLD);
        int[][] due = {{NONE, 2, 2}, {NONE, 1, 0}, {0, 2, 2}, {0, 2, 2}, {0, 2, 2}, {2, 3, 5}};
        for (int i = 0; i < due.length; i++) {
            for (int what = 0; what < 3; what++) {
                C.due("kind(" + i + ", " + what + ")", C.x.kind(i, what), due[i][what]);
            }
        }
        C.of("8: NONE: none such");
        for (int what : new int[] {-1, 3, LEAST, MOST}) {
            C.due("kind(5, " + what + ")", C.x.kind(5, what), NONE);
        }
        for (int i : new int[] {-1, 6, 16, LEAST, MOST}) {
            C.due("kind(" + i + ", 2)", C.x.kind(i, 2), NONE);
        }
    }

    private static void object() {
        C.of("9: 0 its kind, 1 how it is placed, 2 the object there (NONE)");
        C.good(WORLD + "The cap is worn by Anna. The key is carried by Anna. The rack is a supporter in the hall. The pot is on the rack. The den is a room.");
        int[][] due = {{4, 1, 1}, {1, 0, NONE}, {5, 1, 1}, {0, 3, 2}, {4, 1, 1}, {1, 0, NONE}, {0, 5, 4}, {0, 4, 4}, {3, 1, 1}, {0, 2, 8}, {1, 0, NONE}};
        for (int i = 0; i < due.length; i++) {
            for (int what = 0; what < 3; what++) {
                C.due("object(" + i + ", " + what + ")", C.x.object(i, what), due[i][what]);
            }
        }
        C.of("9: NONE: none such");
        for (int i : new int[] {-1, 11, 24, LEAST, MOST}) {
            C.due("object(" + i + ", 0)", C.x.object(i, 0), NONE);
        }
        for (int what : new int[] {-1, 3, LEAST, MOST}) {
            C.due("object(2, " + what + ")", C.x.object(2, what), NONE);
        }
    }

    private static void is() {
        C.of("10: Whether an adjective holds of an object: 1, 0");
        C.good(WORLD);
        C.due("is(2, 2)", C.x.is(2, 2), 1);
        C.due("is(2, 3)", C.x.is(2, 3), 0);
        C.due("is(2, 4), a DEFINED one", C.x.is(2, 4), 1);
        C.due("is(3, 1)", C.x.is(3, 1), 1);
        C.of("10: NONE: none such");
        for (int i : new int[] {-1, 6, 24, LEAST, MOST}) {
            C.due("is(" + i + ", 1)", C.x.is(i, 1), NONE);
        }
        for (int a : new int[] {-1, 5, 24, LEAST, MOST}) {
            C.due("is(2, " + a + ")", C.x.is(2, a), NONE);
        }
        C.of("10: NONE: .. not of its kind");
        C.due("a room, fixed", C.x.is(1, 0), NONE);
        C.due("a thing, open", C.x.is(3, 2), NONE);
        C.due("a person, light", C.x.is(4, 4), NONE);
    }

    private static void property() {
        C.of("11: the number, the value, how long the text is");
        C.good(WORLD + "Void is a kind of value. A room has a void called gap. A room has a number called size."
            + " After singing: decrease the weight of the tin by 1; decrease the size of the hall by 999999; decrease the size of the hall by 1.");
        C.due("the length of a text", C.x.property(2, 0), 6);
        C.due("the first value", C.x.property(2, 1), 0);
        C.due("a number", C.x.property(4, 2), 999999);
        C.due("no number told", C.x.property(3, 2), 0);
        C.due("no text told", C.x.property(3, 0), 0);
        C.of("11: (as name() numbers them; NONE without)");
        C.due("a TYPE without values", C.x.property(1, 3), NONE);
        C.of("11: NONE: none such");
        for (int i : new int[] {-1, 6, 24, LEAST, MOST}) {
            C.due("property(" + i + ", 0)", C.x.property(i, 0), NONE);
        }
        for (int p : new int[] {-1, 5, 12, LEAST, MOST}) {
            C.due("property(1, " + p + ")", C.x.property(1, p), NONE);
        }
        C.due("a property of another kind", C.x.property(3, 1), NONE);
        C.due("a property of another kind", C.x.property(1, 2), NONE);
        C.of("11: (which a number may be, too)");
        C.x.act(6, NONE);
        C.due("-1", C.x.property(2, 2), -1);
        C.due("the least", C.x.property(1, 4), -999999);
    }

    private static void letter() {
        C.of("12: Byte k of a text; NONE");
        C.good(WORLD + "The description of the hall is \" [~]\".");
        C.due("the tin's", C.text(2, 0), "A tin.");
        C.due("the hall's", C.text(1, 0), " [~]");
        for (int k : new int[] {-1, 6, 7, 120, 5000, LEAST, MOST}) {
            C.due("letter(2, 0, " + k + ")", C.x.letter(2, 0, k), NONE);
        }
        C.due("of an empty text", C.x.letter(3, 0, 0), NONE);
        C.due("of a value", C.x.letter(2, 1, 0), NONE);
        C.due("of a number", C.x.letter(4, 2, 0), NONE);
        C.due("of a property of another kind", C.x.letter(3, 1, 0), NONE);
        for (int i : new int[] {-1, 6, 24, LEAST, MOST}) {
            C.due("letter(" + i + ", 0, 0)", C.x.letter(i, 0, 0), NONE);
            C.due("letter(2, " + i + ", 0)", C.x.letter(2, i, 0), NONE);
        }
        String longest = Checks.times("x", 119) + "y";
        C.good("The hall is a room. \"" + longest + "\"");
        C.due("letter(1, 0, 119)", C.x.letter(1, 0, 119), 'y');
        C.due("letter(1, 0, 120)", C.x.letter(1, 0, 120), NONE);
        C.of("12: a text is as it was read, whatever comes on the TAPE behind that");
        C.good("The hall is a room. \"Wide.\"", 2);
        C.feed(Checks.times("zzzzzzzz", 20));
        C.due("behind feed()", C.text(1, 0), "Wide.");
        C.x.command();
        C.feed("Some other words.");
        C.due("behind command()", C.text(1, 0), "Wide.");
    }

    private static void leads() {
        C.of("13: The room to which a direction leads from a room; NONE");
        C.good(WORLD);
        C.due("leads(1, 0)", C.x.leads(1, 0), 5);
        C.due("leads(5, 1)", C.x.leads(5, 1), 1);
        for (int d : new int[] {-1, 1, 2, 3, 4, 5, 6, LEAST, MOST}) {
            C.due("leads(1, " + d + ")", C.x.leads(1, d), NONE);
        }
        for (int i : new int[] {-1, 6, 24, LEAST, MOST}) {
            C.due("leads(" + i + ", 0)", C.x.leads(i, 0), NONE);
        }
        C.due("from no room", C.x.leads(2, 0), NONE);
        C.due("from no room", C.x.leads(0, 1), NONE);
        C.good("The hall is a room. The na is north of the hall. The so is south of the hall. The ea is east of the hall."
            + " The we is west of the hall. The hi is up of the hall. The lo is down of the hall.");
        for (int d = 0; d < 6; d++) {
            C.due("leads(1, " + d + ")", C.x.leads(1, d), 2 + d);
            C.due("leads(" + (2 + d) + ", " + (d ^ 1) + ")", C.x.leads(2 + d, d ^ 1), 1);
        }
    }

    private static void related() {
        C.of("14: Whether an object is so related to another");
        C.good(WORLD);
        C.due("related(0, 4, 2)", C.x.related(0, 4, 2), true);
        C.due("related(0, 2, 4)", C.x.related(0, 2, 4), false);
        C.due("related(0, 4, 4)", C.x.related(0, 4, 4), false);
        C.of("14: false, too, when there are none such");
        for (int i : new int[] {-1, 1, 6, LEAST, MOST}) {
            C.due("related(" + i + ", 4, 2)", C.x.related(i, 4, 2), false);
        }
        for (int i : new int[] {-1, 6, 24, 34, 36, LEAST, MOST}) {
            C.due("related(0, " + i + ", 2)", C.x.related(0, i, 2), false);
            C.due("related(0, 4, " + i + ")", C.x.related(0, 4, i), false);
        }
        C.good(Checks.words(0, 23) + " are a thing. Liking relates various things to various things. The verb to like means the liking relation."
            + " The player likes waw. Waw likes the player. Waw likes waw.");
        C.due("the first to the last of 24", C.x.related(0, 0, 23), true);
        C.due("the last to the first", C.x.related(0, 23, 0), true);
        C.due("the last to itself", C.x.related(0, 23, 23), true);
        C.due("the last but one", C.x.related(0, 22, 23), false);
    }

    private static void rule() {
        C.of("15: RULE i (as told): 0 its sort .. 7 its place in the ORDER of its sort (from 0 on)");
        C.good(WORLD + "Instead of rubbing tin: stop. After rubbing: stop; stop.");
        int[][] due = {{0, 5, NONE, 5, 2, 1, 2, 0}, {3, NONE, NONE, NONE, 0, 0, 1, 0}, {1, 5, 2, NONE, 0, 0, 1, 0}, {2, 5, NONE, NONE, 0, 0, 2, 0}};
        for (int i = 0; i < due.length; i++) {
            for (int what = 0; what < 8; what++) {
                C.due("rule(" + i + ", " + what + ")", C.x.rule(i, what), due[i][what]);
            }
        }
        C.of("15: NONE: none such");
        for (int i : new int[] {-1, 4, 24, LEAST, MOST}) {
            C.due("rule(" + i + ", 0)", C.x.rule(i, 0), NONE);
            C.due("rule(" + i + ", 7)", C.x.rule(i, 7), NONE);
        }
        for (int what : new int[] {-1, 8, 9, LEAST, MOST}) {
            C.due("rule(0, " + what + ")", C.x.rule(0, what), NONE);
        }
        C.of("15: 24 RULES, and those of four sorts");
        C.good(Checks.times("Before waiting: stop. Instead of waiting: stop. After waiting: stop. Every turn: stop. ", 6), 24);
        for (int i = 0; i < 24; i++) {
            C.due("rule(" + i + ", 0)", C.x.rule(i, 0), i % 4);
            C.due("rule(" + i + ", 7)", C.x.rule(i, 7), i / 4);
        }
    }

    private static void act() {
        C.of("16: an object of its kind, a direction; NONE for those of no kind");
        C.good(WORLD);
        C.due("waiting", C.x.act(0, NONE), 0);
        C.due("singing", C.x.act(6, NONE), 0);
        C.due("taking the player", C.x.act(1, 0), 3);
        C.due("taking the lid", C.x.act(1, 3), 0);
        C.due("rubbing the tin", C.x.act(5, 2), 1);
        C.due("going north", C.x.act(4, 0), 0);
        C.due("going down", C.x.act(4, 5), 3);
        C.of("16: NONE: none such");
        C.x.clear();
        for (int action : new int[] {-1, 7, 12, LEAST, MOST}) {
            C.due("act(" + action + ", NONE)", C.x.act(action, NONE), NONE);
            C.due("act(" + action + ", 0)", C.x.act(action, 0), NONE);
        }
        for (int noun : new int[] {0, 1, -2, LEAST, MOST}) {
            C.due("waiting, " + noun, C.x.act(0, noun), NONE);
            C.due("singing, " + noun, C.x.act(6, noun), NONE);
        }
        for (int noun : new int[] {NONE, -2, 1, 6, 24, LEAST, MOST}) {
            C.due("taking, " + noun, C.x.act(1, noun), NONE);
            C.due("dropping, " + noun, C.x.act(2, noun), NONE);
            C.due("examining, " + noun, C.x.act(3, noun), NONE);
        }
        for (int noun : new int[] {NONE, -2, 6, LEAST, MOST}) {
            C.due("going, " + noun, C.x.act(4, noun), NONE);
        }
        for (int noun : new int[] {NONE, 0, 1, 3, 4, 6, LEAST, MOST}) {
            C.due("rubbing, " + noun, C.x.act(5, noun), NONE);
        }
        C.due("no TURN was taken: outs()", C.x.outs(), 0);
    }

    private static void command() {
        C.of("17: the TURN of the first that fits, as act()");
        C.good(WORLD + "Instead of taking anna: stop. After singing: stop. Understand \"sing\" as singing. Instead of dropping: try dropping noun; try dropping noun.");
        C.due("wait", C.command("wait"), 0);
        C.due("rub tin", C.command("rub tin"), 1);
        C.due("take anna", C.command("take anna"), 2);
        C.due("take player", C.command("take player"), 3);
        C.due("sing", C.command("sing"), 4);
        C.due("drop lid", C.command("drop lid"), 5);
        C.of("17: (and is empty then)");
        C.due("wipe()", C.x.wipe(), 0);
        C.due("command() of nothing", C.x.command(), -2);
        C.command("frob");
        C.due("wipe() behind -2", C.x.wipe(), 0);
        C.of("17: -2: none does");
        C.x.clear();
        for (String typed : new String[] {"", " ", "frob", "rub", "rub hall", "rub lid", "wait wait", "take hall"}) {
            C.due("command <" + typed + ">", C.command(typed), -2);
        }
        C.due("no TURN was taken: outs()", C.x.outs(), 0);
    }

    private static void outs() {
        C.of("18, 19: How many bytes OUT has; byte i of it; NONE");
        C.good("The lamp is a thing. \"Dull~\"");
        C.x.act(3, 1);
        C.due("outs()", C.x.outs(), 6);
        C.due("out(0)", C.x.out(0), 'D');
        C.due("out(4)", C.x.out(4), '~');
        C.due("out(5)", C.x.out(5), 10);
        for (int i : new int[] {-1, 6, 7, 1999, 2000, LEAST, MOST}) {
            C.due("out(" + i + ")", C.x.out(i), NONE);
        }
        C.x.act(3, 1);
        C.due("outs() of two turns", C.x.outs(), 12);
        C.of("20: OUT is empty then: how many it had");
        C.due("clear()", C.x.clear(), 12);
        C.due("clear() again", C.x.clear(), 0);
        C.due("outs()", C.x.outs(), 0);
        C.due("out(0)", C.x.out(0), NONE);
        C.x.act(3, 1);
        C.due("out(0) behind it", C.x.out(0), 'D');
        C.of("5 ACTS: OUT has up to 2000 bytes; those beyond are lost");
        C.good("The lamp is a thing. \"" + Checks.times("d", 114) + "eeeee\" The pin is a thing. \"1234567890123456789\" Singing is an action."
            + " Instead of singing: say \"\".");
        for (int i = 0; i < 16; i++) {
            C.x.act(3, 1);
        }
        C.due("outs()", C.x.outs(), 1920);
        for (int i = 0; i < 4; i++) {
            C.x.act(3, 2);
        }
        C.due("outs() when full to the byte", C.x.outs(), 2000);
        C.due("out(1999)", C.x.out(1999), 10);
        C.due("out(1998)", C.x.out(1998), '9');
        C.due("a TURN beyond", C.x.act(3, 2), 0);
        C.due("outs() beyond", C.x.outs(), 2000);
        C.due("out(1999)", C.x.out(1999), 10);
        C.due("out(2000)", C.x.out(2000), NONE);
        C.due("clear()", C.x.clear(), 2000);
        for (int i = 0; i < 17; i++) {
            C.x.act(3, 1);
        }
        C.due("outs() when a text goes beyond", C.x.outs(), 2000);
        C.due("out(1999)", C.x.out(1999), 'd');
        C.due("a TURN beyond", C.x.act(5, NONE), 2);
        C.due("outs() beyond", C.x.outs(), 2000);
        C.x.clear();
        C.x.act(5, NONE);
        C.due("outs() behind clear()", C.x.outs(), 1);
    }
}
