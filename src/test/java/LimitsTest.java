/** Promises 4 and 5, faults 9, 5 and 6: one too many, otherwise than told, rings. */
public final class LimitsTest {
    private static final Checks C = new Checks();

    public static void main(String[] args) {
        tooMany();
        tooManyInOne();
        allFull();
        fullRules();
        firstPlace();
        otherKinds();
        otherWords();
        otherPlaces();
        otherRelations();
        C.end("LimitsTest");
    }

    private static void tooMany() {
        C.of("3: 9: 16 kinds");
        C.good(Checks.words(0, 11) + " are a kind.", 1);
        C.due("kinds", C.x.told(0), 16);
        C.bad(9, Checks.words(0, 11) + ", ^" + Checks.word(11) + " are a kind.");
        C.bad(9, Checks.words(0, 11) + " are a kind. ^X is a kind of frob.");
        C.of("3: 9 .. (what is NEW, as it must be, and beyond, there)");
        C.bad(3, Checks.words(0, 11) + " are a kind. ^Thing is a kind.");
        C.bad(3, Checks.words(0, 11) + " are a kind. A ^won two three four is a kind.");
        C.bad(3, Checks.words(0, 10) + " are a kind. X, ^x and y are a kind.");
        C.of("3: 9: 8 TYPES");
        C.good(Checks.words(0, 6) + " are a kind of value.", 1);
        C.due("TYPES", C.x.told(1), 8);
        C.bad(9, Checks.words(0, 6) + " are a kind of value. ^x is a kind of value.");
        C.of("3: 9: 24 objects");
        C.good(Checks.words(0, 23) + " are a thing.", 1);
        C.due("objects", C.x.told(2), 24);
        C.bad(9, Checks.words(0, 23) + ", ^x, y are a thing.");
        C.good(Checks.words(0, 23) + " are a thing. " + Checks.words(0, 23) + " are fixed.", 2);
        C.bad(9, Checks.words(0, 23) + " are a room. The ^x is north of waa.");
        C.bad(9, Checks.words(0, 23) + " are a room. The ^x is in waa.");
        C.bad(4, Checks.words(0, 23) + " are a thing. The ^thing is a thing.");
        C.bad(3, Checks.words(0, 23) + " are a thing. The ^won two three four is a thing.");
        C.of("3: 9: 24 adjectives");
        StringBuilder adjectives = new StringBuilder();
        for (int i = 0; i < 11; i++) {
            adjectives.append("A thing can be ").append(Checks.word(2 * i)).append(" or ").append(Checks.word(2 * i + 1)).append(". ");
        }
        C.good(adjectives.toString(), 11);
        C.due("adjectives", C.x.told(3), 24);
        C.bad(9, adjectives + "A thing can be ^x or y.");
        C.bad(9, adjectives + "Definition: a thing is ^x if it is fixed.");
        C.bad(9, adjectives.substring(adjectives.indexOf("A", 1)) + "Definition: a thing is q if it is fixed."
            + " A thing can be x or ^y.");
        C.of("3: 9: 8 values of a TYPE");
        C.good("Colour is a kind of value. Colour is " + Checks.words(0, 8) + ". Mood is a kind of value. Mood is x.", 4);
        C.bad(9, "Colour is a kind of value. Colour is " + Checks.words(0, 8) + ", ^x.");
        C.bad(9, "Colour is a kind of value. Colour is " + Checks.words(0, 8) + ". Colours is ^x.");
        C.bad(9, "Colour is a kind of value. Colour is " + Checks.words(0, 7) + ". Colours are x, ^y.");
        C.of("3: 9: 12 properties");
        StringBuilder properties = new StringBuilder();
        for (int i = 0; i < 11; i++) {
            properties.append("A thing has a number called ").append(Checks.word(i)).append(". ");
        }
        C.good(properties + "A room has a number called waa.", 12);
        C.due("properties", C.x.told(5), 12);
        C.bad(9, properties + "A thing has a number called ^x.");
        C.of("3: 9: 6 relations");
        StringBuilder relations = new StringBuilder();
        for (int i = 0; i < 6; i++) {
            relations.append(Checks.word(i)).append(" relates one thing to one thing. ");
        }
        C.good(relations.toString(), 6);
        C.bad(9, relations + "^x relates one thing to one thing.");
        C.of("3: 9: 8 verbs");
        StringBuilder verbs = new StringBuilder("Liking relates one thing to one thing. ");
        for (int i = 0; i < 8; i++) {
            verbs.append("The verb to ").append(Checks.word(i)).append(" means the liking relation. ");
        }
        C.good(verbs.toString(), 9);
        C.bad(9, verbs + "The verb to ^x means the liking relation.");
        C.bad(3, verbs + "The verb to ^waa means the liking relation.");
        C.of("3: 9: 12 actions");
        C.good(Checks.words(0, 7) + " are an action.", 1);
        C.bad(9, Checks.words(0, 7) + ", ^x are an action.");
        C.of("3: 9: 20 COMMANDS (at the TEXT)");
        C.good(Checks.times("Understand \"x\" as waiting. ", 13), 13);
        C.due("COMMANDS", C.x.told(10), 20);
        C.bad(9, Checks.times("Understand \"x\" as waiting. ", 13) + "Understand ^\"5\" as thing.");
        C.of("3: 9: 24 RULES (3 to 6; at their first token)");
        C.good(Checks.times("Before waiting: stop. Every turn: stop. ", 12), 24);
        C.bad(9, Checks.times("Before waiting: stop. Every turn: stop. ", 12) + "^After frob: stop.");
        C.bad(9, Checks.times("Instead of waiting: stop. After waiting: stop. ", 12) + "^Every turn: stop.");
    }

    private static void tooManyInOne() {
        String six = Checks.times("the player is fixed and ", 5) + "the player is fixed";
        C.of("3: 9: 6 TESTS (at the first token of the next one)");
        C.good("Every turn when " + six + ": stop.", 1);
        C.due("TESTS", C.x.rule(0, 5), 6);
        C.bad(9, "Every turn when " + six + " and ^the player is fixed: stop.");
        C.bad(9, "Every turn when " + six + " and ^it is fixed: stop.");
        C.bad(4, "Every turn when ^noun is fixed and " + six + " and it is fixed: stop.");
        C.good("Definition: a thing is odd if " + six + ".", 1);
        C.bad(9, "Definition: a thing is odd if " + six + " and ^it is fixed.");
        C.of("3: 9: 8 PHRASES (at the first token of the next one)");
        String eight = Checks.times("stop; ", 7) + "stop";
        C.good("Every turn: " + eight + ".", 1);
        C.due("PHRASES", C.x.rule(0, 6), 8);
        C.bad(9, "Every turn: " + eight + "; ^stop; stop.");
        C.bad(8, "Every turn: say ^\"[\"; " + eight + ".");
    }

    /** All that there may be, all at once. */
    private static void allFull() {
        C.of("3: 16 kinds, 8 TYPES, 24 objects, 24 adjectives, 8 values of a TYPE, 12 properties, 6 relations, 8 verbs, 12 actions, 20 COMMANDS, 24 RULES");
        StringBuilder s = new StringBuilder(Checks.words(0, 11)).append(" are a kind. ").append(Checks.words(11, 17)).append(" are a kind of value. ");
        for (int i = 0; i < 6; i++) {
            s.append(Checks.word(11 + i)).append(" is ").append(Checks.words(20 + 8 * i, 28 + 8 * i)).append(". ");
        }
        s.append(Checks.words(70, 93)).append(" are a thing. ");
        for (int i = 0; i < 11; i++) {
            s.append("Thing can be ").append(Checks.word(100 + 2 * i)).append(" or ").append(Checks.word(101 + 2 * i)).append(". ");
            s.append("Thing has a text called ").append(Checks.word(130 + i)).append(". ");
        }
        for (int i = 0; i < 6; i++) {
            s.append(Checks.word(150 + i)).append(" relates one thing to one thing. ");
        }
        for (int i = 0; i < 8; i++) {
            s.append("The verb to ").append(Checks.word(160 + i)).append(" means the ").append(Checks.word(155)).append(" relation. ");
        }
        s.append(Checks.words(170, 177)).append(" are an action. ");
        s.append(Checks.times("Understand \"x\" as waiting. ", 13)).append(Checks.times("Every turn: stop. ", 24));
        C.good(s.toString());
        int[] most = {16, 8, 24, 24, 48, 12, 6, 8, 12, 24, 20};
        for (int i = 0; i < most.length; i++) {
            C.due("told(" + i + ")", C.x.told(i), most[i]);
        }
        C.due("the last value", C.name(4, 47), Checks.word(67));
        C.due("the last object", C.name(2, 23), Checks.word(92));
        C.due("the last adjective", C.name(3, 23), Checks.word(121));
        C.due("the last plural", C.name(11, 15), Checks.word(10) + "s");
        C.due("the last action", C.name(8, 11), Checks.word(176));
        C.due("is(23, 23)", C.x.is(23, 23), 1);
        C.due("property(23, 11)", C.x.property(23, 11), 0);
        C.due("act(11, NONE)", C.x.act(11, RuleSentences.NONE), 0);
        C.due("command <examine " + Checks.word(92) + ">", C.command("examine " + Checks.word(92)), 0);
        C.due("command <frob>", C.command("frob"), -2);
        C.of("7 to 16: NONE: none such, when all is full");
        for (int i = 0; i < 9; i++) {
            C.due("name(" + i + ", " + most[i] + ", 0)", C.x.name(i, most[i], 0), RuleSentences.NONE);
        }
        C.due("name(11, 16, 0)", C.x.name(11, 16, 0), RuleSentences.NONE);
        C.due("kind(16, 1)", C.x.kind(16, 1), RuleSentences.NONE);
        C.due("object(24, 0)", C.x.object(24, 0), RuleSentences.NONE);
        C.due("is(24, 0)", C.x.is(24, 0), RuleSentences.NONE);
        C.due("is(0, 24)", C.x.is(0, 24), RuleSentences.NONE);
        C.due("property(24, 0)", C.x.property(24, 0), RuleSentences.NONE);
        C.due("property(0, 12)", C.x.property(0, 12), RuleSentences.NONE);
        C.due("letter(0, 12, 0)", C.x.letter(0, 12, 0), RuleSentences.NONE);
        C.due("leads(24, 0)", C.x.leads(24, 0), RuleSentences.NONE);
        C.due("related(6, 0, 0)", C.x.related(6, 0, 0), false);
        C.due("related(0, 24, 0)", C.x.related(0, 24, 0), false);
        C.due("related(0, 0, 24)", C.x.related(0, 0, 24), false);
        C.due("rule(24, 0)", C.x.rule(24, 0), RuleSentences.NONE);
        C.due("rule(24, 7)", C.x.rule(24, 7), RuleSentences.NONE);
        C.due("act(12, NONE)", C.x.act(12, RuleSentences.NONE), RuleSentences.NONE);
        C.due("act(1, 24)", C.x.act(1, 24), RuleSentences.NONE);
    }

    private static void fullRules() {
        C.of("3: 24 RULES, 6 TESTS, 8 PHRASES, all at once");
        StringBuilder s = new StringBuilder("X is a thing. Thing can be y or z. X is y. ");
        StringBuilder due = new StringBuilder();
        for (int i = 0; i < 24; i++) {
            s.append("Every turn when ").append(Checks.times("x is y and ", 5)).append(i % 2 == 0 ? "x is y" : "x is z")
                .append(":say\"").append(Checks.word(i)).append("\";").append(Checks.times("stop;", 6)).append("stop. ");
            due.append(i % 2 == 0 ? Checks.word(i) + "\n" : "");
        }
        C.good(s.toString(), 27);
        for (int i = 0; i < 24; i += 23) {
            C.due("rule(" + i + ", 5)", C.x.rule(i, 5), 6);
            C.due("rule(" + i + ", 6)", C.x.rule(i, 6), 8);
        }
        C.act(0, RuleSentences.NONE, 0, due.toString());
        C.of("2: TYPES and kinds are numbered apart");
        C.good("A box is a kind of container. A bin is a kind of box. A box has a number called size. A bin has a text called label. Wa, wb, wc, wd, we and wf are a kind of value.");
        C.due("kind(5, 0)", C.x.kind(5, 0), 2);
        C.due("kind(6, 0)", C.x.kind(6, 0), 5);
        C.due("kind(5, 1)", C.x.kind(5, 1), 2);
        C.due("kind(6, 1)", C.x.kind(6, 1), 3);
    }

    private static void firstPlace() {
        String world = "The hall is a room. The tin is a container. The bag is a container in the hall. ";
        C.of("3: Else the first place");
        C.bad(3, world + "Box and ^thing are a kind of frob.");
        C.bad(4, world + "Box and bin are a kind of ^frob.");
        C.bad(4, world + "The ^thing is a frob in the frob.");
        C.bad(3, world + "The ^so very old tin is a frob in the frob.");
        C.bad(4, world + "The tin is a ^frob in the frob.");
        C.bad(4, world + "The tin is a thing in the ^frob.");
        C.bad(4, world + "The ^frob of the frob is frob.");
        C.bad(4, world + "The description of the ^frob is frob.");
        C.bad(4, world + "The description of the tin is ^frob.");
        C.bad(4, world + "The ^frob has a frob called thing.");
        C.bad(4, world + "Thing has a ^frob called thing.");
        C.bad(4, world + "Thing has a number called ^thing.");
        C.bad(4, world + "The ^frob can be fixed or fixed.");
        C.bad(3, world + "Thing can be ^fixed or fixed.");
        C.bad(3, world + "Thing can be old or ^fixed.");
        C.bad(3, world + "The ^thing relates one frob to one frob.");
        C.bad(4, world + "Liking relates one ^frob to one frob.");
        C.bad(4, world + "Liking relates one thing to one ^frob.");
        C.bad(3, world + "The verb to ^fixed means the frob relation.");
        C.bad(4, world + "The plural of the ^frob is fixed.");
        C.bad(4, world + "The ^thing is frob of the frob.");
        C.bad(4, world + "The yard is ^frob of the frob.");
        C.bad(4, world + "The yard is north of the ^frob.");
        C.bad(4, world + "The ^frob is usually frob.");
        C.bad(8, world + "Understand ^\"5\" as frob.");
        C.bad(4, world + "Definition: a ^frob is fixed if frob is fixed.");
        C.bad(3, world + "Definition: a thing is ^fixed if frob is fixed.");
        C.bad(4, world + "Definition: a thing is odd if ^frob is frob.");
        C.bad(4, world + "Before ^frob the frob when frob is fixed: say \"[\".");
        C.bad(4, world + "Before taking the ^frob when frob is fixed: say \"[\".");
        C.bad(4, world + "Before taking the tin when ^frob is frob: say \"[\".");
        C.bad(4, world + "Before taking the tin when tin is ^frob: say \"[\".");
        C.bad(8, world + "Before taking the tin when tin is fixed: say ^\"[\"; now frob is fixed.");
        C.bad(4, world + "Before taking the tin when tin is fixed: stop; now ^frob is fixed; say \"[\".");
        C.bad(4, world + "Every turn: move ^frob to frob.");
        C.bad(4, world + "Every turn: increase the ^frob of frob by 5.");
        C.of("3: Else, by what it does: 5 and 6 behind all others");
        C.bad(4, world + "The hall is a thing in the ^frob.");
        C.bad(4, world + "The tin is in the ^frob.");
        C.bad(4, world + "The description of the tin is \"x\". The description of the tin is ^5.");
        C.bad(3, world + "The hall and the ^so very old tin are a thing.");
        C.of("3: in the LIST's order (kind, ADJECTIVES, place, of each), at the NAME in the LIST");
        C.bad(6, world + "The ^tin and the hall are in the tin.");
        C.bad(5, world + "The ^hall and the tin are in the tin.");
        C.bad(5, world + "The lid, the pot and the ^hall are a thing in the tin.");
        C.bad(5, world + "The ^tin is a supporter in the tin.");
        C.bad(5, world + "The tin is fixed. The ^tin is a portable thing in the tin.");
        C.bad(6, world + "The tin is fixed. The ^tin is a fixed thing in the tin.");
        C.bad(5, world + "The ^bag is a thing in the bag.");
    }

    private static void otherKinds() {
        C.of("3: 5 .. an object of a kind that is not the one told, nor above (it stays) or below that (it is of that then)");
        String boxes = "A box is a kind of container. A crate is a kind of container. ";
        C.bad(5, "The hall is a room. The ^hall is a thing.");
        C.bad(5, boxes + "The bag is a box. The ^bag is a crate.");
        C.good(boxes + "The bag is a box. The bag is a thing. The bag is a container.", 5);
        C.due("kind of the bag", C.x.object(1, 0), 5);
        C.good(boxes + "The bag is a thing. The bag is a container. The bag is a crate.", 5);
        C.due("kind of the bag", C.x.object(1, 0), 6);
        C.bad(5, boxes + "The tin, the tub and the lid are a box. The ^tub, the tin are crates.");
        C.bad(5, boxes + "The tin is a box. The tub is a thing. The tub and the ^tin are crates.");
        C.of("3: 5 .. a property with another TYPE");
        C.faulty(5, "A thing has a number called weight. A room has a text called weight.");
        C.faulty(5, "A room has a number called description.");
        C.good("A thing has a number called weight. A room has a number called weight. A box is a kind. A box has a text called description.", 4);
    }

    private static void otherWords() {
        C.of("3: 5 .. the contrary of an adjective, another value, number, text, of an object (or of a kind, by usually and 9)");
        String box = "A box is a kind. A box can be open or shut. Colour is a kind of value. Colour is red, blue."
            + " A box has a colour called tint. A thing has a number called weight. The bag is a box. The tin is a box. ";
        C.bad(5, box + "The bag is open. The tin and the ^bag are shut.");
        C.bad(5, box + "The bag is not open. The ^bag is open.");
        C.bad(5, box + "The bag is shut. The ^bag is not shut.");
        C.bad(5, box + "The bag is not open. The ^bag is not shut.");
        C.bad(5, box + "The bag is not shut. The ^bag is not open.");
        C.bad(5, box + "The bag is not shut. The ^bag is shut.");
        C.good(box + "The bag is not shut. The bag is open. The bag is not shut.");
        C.good(box + "The bag is shut. The bag is not open. The bag is a shut box. The tin is open.");
        C.bad(5, box + "The bag is red. The ^bag is blue.");
        C.bad(5, box + "The bag is red. The tint of the ^bag is blue.");
        C.bad(5, box + "The ^bag is a red blue box.");
        C.bad(5, box + "The ^lid is an open shut box.");
        C.bad(5, box + "The weight of the bag is 5. The weight of the ^bag is 6.");
        C.bad(5, box + "The weight of box is 5. The weight of the ^box is 6.");
        C.good(box + "The weight of box is 5. The weight of the bag is 6. The weight of thing is 7. The weight of box is 5.");
        C.bad(5, box + "A box is usually open. A ^box is usually shut.");
        C.bad(5, box + "A box is usually red. The tint of a ^box is blue.");
        C.bad(5, box + "The tint of box is red. A ^box is usually blue.");
        C.good(box + "A box is usually open. The bag is shut. A box is usually open. A thing is usually fixed. A box is usually portable.");
        C.bad(5, "The hall is a room. \"a\" ^\"b\"");
        C.bad(5, "The hall is a room. \"a\" The description of the ^hall is \"b\".");
        C.bad(5, "The hall is a room. The description of the hall is \"ab\". ^\"a\".");
        C.good("The hall is a room. \"ab\" \"ab\". The description of the hall is \"ab\".", 4);
    }

    private static void otherPlaces() {
        C.of("3: 5 .. another place, or a place of what is no thing; a direction from a room to another room. 6 a ring: a place within itself");
        String rooms = "The hall is a room. The yard is a room. The bag is a container in the hall. The tin is a container. ";
        C.bad(5, rooms + "The tin and the ^bag are in the yard.");
        C.bad(5, rooms + "The ^bag is part of the tin.");
        C.good(rooms + "The bag is in the hall. The bag is a thing in the hall.");
        C.bad(5, rooms + "The ^yard is in the hall.");
        C.bad(5, rooms + "The ^den is a room in the hall.");
        C.bad(6, rooms + "The ^tin is in the tin.");
        C.bad(5, rooms + "The lid is part of the tin. The ^lid is part of the lid.");
        C.bad(6, rooms + "The lid is in the tin. The ^tin is part of the lid.");
        C.bad(6, rooms + "The tub is a container in the tin. The lid is in the tub. The ^tin is part of the lid.");
        C.bad(5, rooms + "The lid is part of the bag. The ^bag is part of the lid.");
        String ways = "The hall is a room. The yard is north of the hall. ";
        C.bad(5, ways + "The ^den is north of the hall.");
        C.bad(5, ways + "The ^hall is north of the hall.");
        C.good(ways + "The yard is north of the hall. The den is south of the yard. The hall is south of the hall.", 5);
    }

    private static void otherRelations() {
        C.of("3: 5 .. a relation with one, to or from another one");
        String all = "Anna and Bert are people. The tin and the bag are things. Liking relates various people to one thing."
            + " The verb to like means the liking relation. Owning relates one person to various things."
            + " The verb to own means the owning relation. ";
        C.bad(5, all + "Anna likes the bag. ^Anna likes the tin.");
        C.bad(5, all + "^Anna likes the bag and the tin.");
        C.good(all + "Anna and Bert like the bag. Anna likes the bag.");
        C.bad(5, all + "Anna owns the bag. ^Bert owns the bag.");
        C.bad(5, all + "The player owns the bag. ^Bert owns the bag.");
        C.bad(5, all + "^The Anna and Bert own the bag.");
        C.good(all + "Anna owns the bag and the tin. Anna owns the bag. Bert owns Bert.");
    }
}
