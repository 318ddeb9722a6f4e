/** Promises 4 and 5, faults 9, 5 and 6: one too many, otherwise than told, rings. */
public final class LimitsTest {
    private static final Checks C = new Checks();

    public static void main(String[] args) {
        tooMany();
        tooManyInOne();
        otherKinds();
        otherWords();
        otherPlaces();
        otherRelations();
        C.end("LimitsTest");
    }

    private static void tooMany() {
        C.good(Checks.words(0, 11) + " are a kind.", 1);
        C.due("kinds", C.x.told(0), 16);
        C.bad(9, Checks.words(0, 11) + ", ^" + Checks.word(11) + " are a kind.");
        C.bad(3, Checks.words(0, 11) + " are a kind. ^Thing is a kind.");
        C.good(Checks.words(0, 6) + " are a kind of value.", 1);
        C.due("TYPES", C.x.told(1), 8);
        C.bad(9, Checks.words(0, 6) + " are a kind of value. ^x is a kind of value.");
        C.good(Checks.words(0, 23) + " are a thing.", 1);
        C.due("objects", C.x.told(2), 24);
        C.bad(9, Checks.words(0, 23) + ", ^x, y are a thing.");
        C.good(Checks.words(0, 23) + " are a thing. " + Checks.words(0, 23) + " are fixed.", 2);
        C.bad(9, Checks.words(0, 23) + " are a room. The ^x is north of waa.");
        C.bad(9, Checks.words(0, 23) + " are a room. The ^x is in waa.");
        StringBuilder adjectives = new StringBuilder();
        for (int i = 0; i < 11; i++) {
            adjectives.append("A thing can be ").append(Checks.word(2 * i)).append(" or ").append(Checks.word(2 * i + 1)).append(". ");
        }
        C.good(adjectives.toString(), 11);
        C.due("adjectives", C.x.told(3), 24);
        C.bad(9, adjectives + "A thing can be ^x or y.");
        C.bad(9, adjectives + "Definition: a thing is ^x if it is fixed.");
        C.bad(9, adjectives.substring(adjectives.indexOf("A", 1)) + "Definition: a thing is q if it is fixed."
            + " A thing can be x or ^y.");
        C.good("Colour is a kind of value. Colour is " + Checks.words(0, 8) + ". Mood is a kind of value. Mood is x.", 4);
        C.bad(9, "Colour is a kind of value. Colour is " + Checks.words(0, 8) + ", ^x.");
        C.bad(9, "Colour is a kind of value. Colour is " + Checks.words(0, 8) + ". Colours is ^x.");
        StringBuilder properties = new StringBuilder();
        for (int i = 0; i < 11; i++) {
            properties.append("A thing has a number called ").append(Checks.word(i)).append(". ");
        }
        C.good(properties + "A room has a number called waa.", 12);
        C.due("properties", C.x.told(5), 12);
        C.bad(9, properties + "A thing has a number called ^x.");
        StringBuilder relations = new StringBuilder();
        for (int i = 0; i < 6; i++) {
            relations.append(Checks.word(i)).append(" relates one thing to one thing. ");
        }
        C.good(relations.toString(), 6);
        C.bad(9, relations + "^x relates one thing to one thing.");
        StringBuilder verbs = new StringBuilder("Liking relates one thing to one thing. ");
        for (int i = 0; i < 8; i++) {
            verbs.append("The verb to ").append(Checks.word(i)).append(" means the liking relation. ");
        }
        C.good(verbs.toString(), 9);
        C.bad(9, verbs + "The verb to ^x means the liking relation.");
        C.bad(3, verbs + "The verb to ^waa means the liking relation.");
        C.good(Checks.words(0, 7) + " are an action.", 1);
        C.bad(9, Checks.words(0, 7) + ", ^x are an action.");
        C.good(Checks.times("Understand \"x\" as waiting. ", 13), 13);
        C.due("COMMANDS", C.x.told(10), 20);
        C.bad(9, Checks.times("Understand \"x\" as waiting. ", 13) + "Understand ^\"5\" as thing.");
        C.good(Checks.times("Before waiting: stop. Every turn: stop. ", 12), 24);
        C.bad(9, Checks.times("Before waiting: stop. Every turn: stop. ", 12) + "^After frob: stop.");
        C.bad(9, Checks.times("Instead of waiting: stop. After waiting: stop. ", 12) + "^Every turn: stop.");
    }

    private static void tooManyInOne() {
        String six = Checks.times("the player is fixed and ", 5) + "the player is fixed";
        C.good("Every turn when " + six + ": stop.", 1);
        C.due("TESTS", C.x.rule(0, 5), 6);
        C.bad(9, "Every turn when " + six + " and ^the player is fixed: stop.");
        C.bad(9, "Every turn when " + six + " and ^it is fixed: stop.");
        C.bad(4, "Every turn when ^noun is fixed and " + six + " and it is fixed: stop.");
        C.good("Definition: a thing is odd if " + six + ".", 1);
        C.bad(9, "Definition: a thing is odd if " + six + " and ^it is fixed.");
        String eight = Checks.times("stop; ", 7) + "stop";
        C.good("Every turn: " + eight + ".", 1);
        C.due("PHRASES", C.x.rule(0, 6), 8);
        C.bad(9, "Every turn: " + eight + "; ^stop; stop.");
        C.bad(8, "Every turn: say ^\"[\"; " + eight + ".");
    }

    private static void otherKinds() {
        String boxes = "A box is a kind of container. A crate is a kind of container. ";
        C.bad(5, "The hall is a room. The ^hall is a thing.");
        C.bad(5, boxes + "The bag is a box. The ^bag is a crate.");
        C.good(boxes + "The bag is a box. The bag is a thing. The bag is a container.", 5);
        C.due("kind of the bag", C.x.object(1, 0), 5);
        C.good(boxes + "The bag is a thing. The bag is a container. The bag is a crate.", 5);
        C.due("kind of the bag", C.x.object(1, 0), 6);
        C.bad(5, boxes + "The tin, the tub and the lid are a box. The ^tub, the tin are crates.");
        C.bad(5, boxes + "The tin is a box. The tub is a thing. The tub and the ^tin are crates.");
        C.bad(5, "A thing has a number called weight. A ^room has a text called weight.");
        C.bad(5, "A ^room has a number called description.");
    }

    private static void otherWords() {
        String box = "A box is a kind. A box can be open or shut. Colour is a kind of value. Colour is red, blue."
            + " A box has a colour called tint. A thing has a number called weight. The bag is a box. The tin is a box. ";
        C.bad(5, box + "The bag is open. The tin and the ^bag are shut.");
        C.bad(5, box + "The bag is not open. The ^bag is open.");
        C.bad(5, box + "The bag is shut. The ^bag is not shut.");
        C.good(box + "The bag is shut. The bag is not open. The bag is a shut box. The tin is open.");
        C.bad(5, box + "The bag is red. The ^bag is blue.");
        C.bad(5, box + "The bag is red. The tint of the ^bag is blue.");
        C.bad(5, box + "The ^bag is a red blue box.");
        C.bad(5, box + "The ^lid is an open shut box.");
        C.bad(5, box + "The weight of the bag is 5. The weight of the ^bag is 6.");
        C.bad(5, box + "The weight of box is 5. The weight of the ^box is 6.");
        C.good(box + "The weight of box is 5. The weight of the bag is 6. The weight of thing is 7. The weight of box is 5.");
        C.bad(5, box + "A box is usually open. A ^box is usually shut.");
        C.bad(5, box + "A box is usually red. The tint of a ^box is blue.");
        C.bad(5, box + "The tint of box is red. A ^box is usually blue.");
        C.good(box + "A box is usually open. The bag is shut. A box is usually open. A thing is usually fixed. A box is usually portable.");
        C.bad(5, "The hall is a room. \"a\" ^\"b\"");
        C.bad(5, "The hall is a room. \"a\" The description of the ^hall is \"b\".");
        C.bad(5, "The hall is a room. The description of the hall is \"ab\". ^\"a\".");
        C.good("The hall is a room. \"ab\" \"ab\". The description of the hall is \"ab\".", 4);
    }

    private static void otherPlaces() {
        String rooms = "The hall is a room. The yard is a room. The bag is a container in the hall. The tin is a container. ";
        C.bad(5, rooms + "The tin and the ^bag are in the yard.");
        C.bad(5, rooms + "The ^bag is part of the tin.");
        C.good(rooms + "The bag is in the hall. The bag is a thing in the hall.");
        C.bad(5, rooms + "The ^yard is in the hall.");
        C.bad(5, rooms + "The ^den is a room in the hall.");
        C.bad(6, rooms + "The ^tin is in the tin.");
        C.bad(5, rooms + "The lid is part of the tin. The ^lid is part of the lid.");
        C.bad(6, rooms + "The lid is in the tin. The ^tin is part of the lid.");
        C.bad(6, rooms + "The tub is a container in the tin. The lid is in the tub. The ^tin is part of the lid.");
        C.bad(5, rooms + "The lid is part of the bag. The ^bag is part of the lid.");
        String ways = "The hall is a room. The yard is north of the hall. ";
        C.bad(5, ways + "The ^den is north of the hall.");
        C.bad(5, ways + "The ^hall is north of the hall.");
        C.good(ways + "The yard is north of the hall. The den is south of the yard. The hall is south of the hall.", 5);
    }

    private static void otherRelations() {
        String all = "Anna and Bert are people. The tin and the bag are things. Liking relates various people to one thing."
            + " The verb to like means the liking relation. Owning relates one person to various things."
            + " The verb to own means the owning relation. ";
        C.bad(5, all + "Anna likes the bag. ^Anna likes the tin.");
        C.bad(5, all + "^Anna likes the bag and the tin.");
        C.good(all + "Anna and Bert like the bag. Anna likes the bag.");
        C.bad(5, all + "Anna owns the bag. ^Bert owns the bag.");
        C.bad(5, all + "^The Anna and Bert own the bag.");
        C.good(all + "Anna owns the bag and the tin. Anna owns the bag. Bert owns Bert.");
    }
}
