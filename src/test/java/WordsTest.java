/** 2 WHAT WORDS MEAN: what may be told NEW, and from when on it means what; where it may stand then. */
public final class WordsTest {
    private static final Checks C = new Checks();
    private static final int NONE = RuleSentences.NONE;
    private static final String WORLD = "The hall is a room. Colour is a kind of value. The colours are red and dark blue. A thing has a colour called tint."
        + " Liking relates various things to various things. The verb to like means the liking relation. The chest is a container. ";
    /** A word or words of each sort that mean something, in this order: 0 kind .. 13 direction. */
    private static final String[] MEANT = {"thing", "things", "number", "colours", "chest", "fixed", "dark blue", "description", "liking", "like", "likes",
        "waiting", "north", "colour"};
    /** Sentences with a NEW at the @. */
    private static final String[] NEWS = {"The @ is a kind.", "Zz and a @ are a kind of container.", "The @ is a kind of value.", "Zz, @ are a kind of value.",
        "@ is an action.", "Zz and @ are an action applying to one thing.", "A thing can be @ or zz.", "A thing can be zz or @.", "Colour is @.", "Colours are zz and @.",
        "@ relates one thing to one thing.", "The verb to @ means the liking relation.", "The plural of container is @.", "The plural of the colours is @.",
        "Definition: a thing is @ if it is fixed."};
    /** Likewise, but an object may stand there, too. */
    private static final String[] OBJECT_OR_NEW = {"The @ is a thing.", "Zz and @ are a fixed thing.", "@ is part of the chest.", "Zz and the @ are in hall.",
        "Zz, zy, and @ are things."};

    public static void main(String[] args) {
        oneToThree();
        nothing();
        twice();
        fromThenOn();
        everySort();
        plurals();
        descriptions();
        numbered();
        subjects();
        placesThatHold();
        ones();
        C.end("WordsTest");
    }

    private static String at(String sentence, String words) {
        return WORLD + sentence.replace("@", "^" + words);
    }

    private static String with(String sentence, String words) {
        return WORLD + sentence.replace("@", words);
    }

    private static void oneToThree() {
        C.of("2: NEW: .. are three at most");
        for (String sentence : NEWS) {
            boolean verb = sentence.startsWith("The verb");
            C.good(with(sentence, "won"));
            if (verb) {
                C.bad(3, at(sentence, "won two"));
            } else {
                C.good(with(sentence, "won two three"));
            }
            C.bad(3, at(sentence, "won two three four"));
            C.bad(3, at(sentence, "won two three four five six seven"));
        }
        C.of("3: 3 .. (of what may be something, too: when it means nothing, but is no NEW)");
        for (String sentence : OBJECT_OR_NEW) {
            C.good(with(sentence, "won two three"));
            C.bad(3, at(sentence, "won two three four"));
            C.bad(3, at(sentence, "chest hall room thing"));
        }
        C.good(with("The @ is north of the hall.", "won two three"));
        C.bad(3, at("The @ is north of the hall.", "won two three four"));
        C.good(with("A thing has a number called @.", "won two three"));
        C.bad(3, at("A thing has a number called @.", "won two three four"));
    }

    private static void nothing() {
        C.of("3: 3 not NEW where it must be");
        for (String sentence : NEWS) {
            for (String words : MEANT) {
                C.bad(3, at(sentence, words));
            }
        }
        C.of("3: 4 not what it must be (an object or NEW; a room or NEW; a property or NEW)");
        for (String words : MEANT) {
            for (String sentence : OBJECT_OR_NEW) {
                if (words.equals("chest")) {
                    C.good(with(sentence, "player"));
                } else {
                    C.bad(4, at(sentence, words));
                }
            }
            C.bad(4, at("The @ is north of the hall.", words));
            if (words.equals("description")) {
                C.good(with("A thing has a text called @.", words));
            } else {
                C.bad(4, at("A thing has a text called @.", words));
            }
        }
        C.good(with("The @ is north of the hall.", "hall"));
        C.of("2: FREE words .. MEAN one thing at most: parts of what means something mean nothing");
        C.good("The very old tin is a thing. Very, old, tin, very old, old tin, very tin and old very tin are a thing.", 2);
        C.due("objects", C.x.told(2), 9);
    }

    private static void twice() {
        C.of("2: NEW: .. were not told NEW in this sentence ahead");
        C.bad(3, "Box and ^box are a kind.");
        C.bad(3, "Old box, box, a bin, the ^old box are a kind.");
        C.bad(3, "Box, bin, ^box are a kind of value.");
        C.bad(3, "Rubbing, ^rubbing is an action.");
        C.bad(3, "A thing can be won two three or ^won two three.");
        C.bad(3, "A thing can be old or ^old.");
        C.bad(3, WORLD + "Colours are grey, pink, ^grey.");
        C.bad(3, "Box and the ^box are a thing.");
        C.bad(3, "Box and ^box are things.");
        C.bad(3, WORLD + "The box, bin and ^box are in the hall.");
        C.good("Old box, box old, box and old are a thing. A thing can be old bin or bin.", 2);
        C.due("objects", C.x.told(2), 5);
        C.good("Box and bin are a thing. Box and box and bin are fixed.", 2);
    }

    private static void fromThenOn() {
        C.of("2: MEAN one thing at most, from the sentence on behind the one that tells it");
        C.bad(4, "Box is a kind of ^box.");
        C.bad(4, "Box is a kind of ^boxs.");
        C.bad(4, WORLD + "The yard is north of the ^yard.");
        C.bad(4, WORLD + "The bag is a container in the ^bag.");
        C.bad(4, WORLD + "The bag is part of the ^bag.");
        C.bad(4, "Tending relates one ^tending to one thing.");
        C.bad(4, WORLD + "The verb to love means the ^love relation.");
        C.bad(4, "Definition: a thing is odd if it is ^odd.");
        C.bad(4, "The bag is a ^bag.");
        C.bad(4, "The bag is a ^box. A box is a kind.");
        C.bad(4, "The player is ^open. A thing can be open or shut.");
        C.bad(4, "^Player likes player. " + WORLD);
        C.bad(4, "The ^weight of player is 5. A thing has a number called weight.");
        C.bad(4, "Before ^rubbing: stop. Rubbing is an action.");
        C.good("Box is a kind. Bin is a kind of box. The tin is a bin.", 3);
    }

    private static void everySort() {
        C.of("2: a kind, its plural, a TYPE, its plural, an object, an adjective, a value, a property, a relation, a verb (also with s), an action, a direction");
        String news = "Big box is a kind of container. Big mood is a kind of value. Big moods are very sad. The big tin is a thing. A thing can be so old or so new."
            + " A thing has a number called big weight. Big liking relates various things to various things. The verb to love means the big liking relation."
            + " Big rubbing is an action. Definition: a thing is so odd if it is fixed. ";
        String[] words = {"big box", "big boxs", "big mood", "big moods", "very sad", "big tin", "so old", "so new", "big weight", "big liking", "love", "loves",
            "big rubbing", "so odd"};
        for (String w : words) {
            C.bad(3, news + "The ^" + w + " is a kind.");
        }
        C.good(news + "The big, mood, sad, very, tin, box, lovess and old are a kind.", 11);
    }

    private static void plurals() {
        C.of("2: 10 .. the words with s at their end are its plural, if they mean nothing");
        C.good("Abcdefghijkl is a kind. Old abcdefghijkl is a kind of value. Red bin is a kind.", 3);
        C.due("thirteen letters", C.name(11, 5), "abcdefghijkls");
        C.due("two words", C.name(11, 6), "red bins");
        C.good("Tins is a thing. Tin is a kind. Tin box is a kind.", 3);
        C.due("no plural", C.x.name(11, 5, 0), NONE);
        C.bad(4, "Tins is a thing. Tin is a kind. The player are ^tins.");
        C.good("Tins is a thing. Tin is a kind. The plural of tin is tinnies. Bert are tinnies.", 4);
        C.due("its plural then", C.name(11, 5), "tinnies");
        C.good("Box and boxs are a kind of value.", 1);
        C.bad(3, "Box and boxs are a kind of value. ^Boxss is a kind.");
        C.good("Box is a kind of value. Box is red. Boxs are blue.", 3);
        C.of("2: 8 .. NEW: its plural, in place of what that was, which means nothing more");
        C.good("The plural of thing is stuff. The plural of stuff is many stuff. Stuff and things are a thing. Bert are many stuff.", 4);
        C.due("plural 0", C.name(11, 0), "many stuff");
        C.bad(4, "The plural of thing is stuff. The player are ^things.");
        C.bad(3, "The plural of thing is ^things.");
        C.good("The plural of number is numbers. The plural of numbers is many numbers. A thing has a many numbers called weight. Numbers is a kind.", 4);
        C.bad(4, "The plural of number is numbers. The plural of numbers is many numbers. A thing has a ^numbers called weight.");
        C.of("2: TYPES 0 number, 1 text");
        C.good("A thing has a number called weight. A thing has a text called label. The weight of player is 5. The label of player is \"x\".", 4);
        C.due("a number", C.x.property(0, 1), 5);
        C.due("a text", C.x.property(0, 2), 1);
        C.bad(4, "^Number is five.");
        C.bad(4, "^Text is five, six.");
        C.bad(4, "The plural of text is texts. ^Texts are five.");
    }

    private static void descriptions() {
        String ways = "A thing can be old or new. A thing can be big or tiny. A thing can be hot or cold. A thing can be wet or dry. A thing can be far or near."
            + " A thing can be so very dull or bright. ";
        C.of("2: DESCRIPTION: a RUN of at most six words");
        C.good(ways + "The bag is an old big hot wet far thing.");
        int[] due = {2, 4, 6, 8, 10};
        for (int a : due) {
            C.due("is(1, " + a + ")", C.x.is(1, a), 1);
        }
        C.bad(4, ways + "The bag is an ^old big hot wet far fixed thing.");
        C.bad(4, ways + "The player and the player are ^old big hot wet far fixed things.");
        C.good(ways + "The bag, bin are old big hot wet far things.");
        C.good(ways + "Before taking an old big hot wet far thing: stop.");
        C.due("ADJECTIVES", C.x.rule(0, 4), 5);
        C.bad(4, ways + "Before taking an ^old big hot wet far fixed thing: stop.");
        C.good(ways + "The bag is a so very dull fixed old thing.");
        C.bad(4, ways + "The bag is a ^so very dull fixed old big thing.");
        C.good(ways + "A very very box is a kind. The bag is a so very dull very very box.");
        C.due("kind of the bag", C.x.object(1, 0), 5);
        C.bad(4, ways + "A very very box is a kind. The bag is a ^so very dull old very very box.");
        C.of("2: that is ADJECTIVES, none or more, of a kind, and that kind behind them");
        C.good("The bag is a thing.");
        C.good(ways + "The bag is an old thing.");
        C.bad(4, ways + "The bag is a ^thing old.");
        C.bad(4, ways + "The bag is an ^old.");
        C.bad(4, ways + "The bag is an ^old thing thing.");
        C.bad(4, ways + "The bag is a ^thing container.");
        C.bad(4, ways + "The bag is an ^old room.");
        C.bad(4, "A box is a kind. A box can be open or shut. The bag is an ^open thing.");
        C.good("A box is a kind. A box can be open or shut. A bin is a kind of box. The bag is an open bin.");
        C.of("2: (of plural ones: its plural)");
        C.bad(4, ways + "The player are ^old thing.");
        C.bad(4, ways + "The bag is an ^old things.");
        C.good(ways + "The bag are old things.");
        C.bad(4, ways + "The ^bag is old things.");
        C.of("2: (DEFINED ones in TESTS, but not behind now, and in a DESCRIPTION of 3 to 5)");
        String odd = "Definition: a thing is odd if it is fixed. ";
        C.good(odd + "Definition: a thing is even if it is not odd. Before taking an odd thing when noun is odd: stop.");
        C.bad(4, odd + "The bag is an ^odd thing.");
        C.bad(4, odd + "The player are ^odd things.");
        C.bad(4, odd + "The player is ^odd.");
        C.bad(4, odd + "A thing is usually ^odd.");
        C.bad(4, odd + "Every turn: now the player is ^odd.");
        C.bad(4, odd + "Every turn: now the player is not ^odd.");
        C.of("2: (without not ahead) a value of the TYPE of a property that it has");
        C.good(WORLD + "The chest is red. A thing is usually dark blue. The bag is a red thing. Every turn when the chest is red: now the chest is dark blue.");
        C.bad(4, WORLD + "The chest is not ^red.");
        C.bad(4, WORLD + "Every turn when the chest is not ^red: stop.");
        C.bad(4, WORLD + "Every turn: now the chest is not ^red.");
        C.bad(4, WORLD + "The hall is ^red.");
        C.of("2: (of two such properties: two READINGS)");
        String two = WORLD + "A container has a colour called trim. ";
        C.good(two + "The player is red.");
        C.bad(7, two + "The chest is ^red.");
        C.bad(7, two + "The bag is a ^red container.");
        C.bad(7, two + "A container is usually ^red.");
        C.bad(7, two + "Every turn when the chest is ^red: stop.");
        C.bad(7, two + "Before taking a ^red container: stop.");
        C.good(two + "Before taking a red thing: stop. The tint of the chest is red.");
    }

    private static void numbered() {
        C.of("2: Things of each sort are numbered as they are told");
        C.good("Zz and aa are a kind. Mm is a kind of zz. Zy, ab are a kind of value. Zx, ac are a thing. Ad is a room. A thing can be zw or ae. Zy is zv, af. Ab is ag."
            + " A thing has a zy called zu. A room has an ab called ah. Zt relates one thing to one thing. Ai relates one thing to one thing."
            + " The verb to zs means the ai relation. The verb to aj means the zt relation. Zr and ak are an action. Definition: a thing is al if it is zw. Am is an action.");
        String[][] names = {{"zz", "aa", "mm"}, {"zy", "ab"}, {"zx", "ac", "ad"}, {"zw", "ae", "al"}, {"zv", "af", "ag"}, {"zu", "ah"}, {"zt", "ai"}, {"zs", "aj"},
            {"zr", "ak", "am"}};
        int[] first = {5, 2, 1, 2, 0, 1, 0, 0, 5};
        for (int what = 0; what < names.length; what++) {
            C.due("told(" + what + ")", C.x.told(what), first[what] + names[what].length);
            for (int i = 0; i < names[what].length; i++) {
                C.due("name(" + what + ", " + (first[what] + i) + ", ..)", C.name(what, first[what] + i), names[what][i]);
            }
        }
    }

    /** A TEXT goes to the object that has a description then. */
    private static void text(String story, String object) {
        C.good(story + " \"t\"");
        for (int i = 0; i < C.x.told(2); i++) {
            C.due("description of " + C.name(2, i), C.x.property(i, 0), C.name(2, i).equals(object) ? 1 : 0);
        }
    }

    private static void subjects() {
        C.of("2: 0 is 9 of the description of the first object of the latest sentence of 12 to 15 that had objects");
        text("The zz and aa are a thing.", "zz");
        text("The zz, aa are a thing. The hall is a room.", "hall");
        text("The hall is a room. The zz and player are in the hall.", "zz");
        text("The hall is a room. The player and zz are in the hall.", "player");
        text("The hall is a room. The yard is north of the hall.", "yard");
        text("The hall is a room. The yard is a room. The hall is north of the yard.", "hall");
        text("The zz is a thing. The aa is a thing. The zz is fixed.", "zz");
        text("The zz is a thing. The aa is a thing. The zz and aa are not fixed.", "zz");
        text("The aa and zz are a thing. The zz, aa are things.", "zz");
        C.of("2: .. that had objects: not 15 of a TYPE, nor with usually, nor any other sort");
        String zz = "Zz is a thing. Aa is a thing. The zz is fixed. Colour is a kind of value. Liking relates various things to various things."
            + " The verb to like means the liking relation. A thing has a number called weight.";
        text(zz + " Colour is red.", "zz");
        text(zz + " Colours are red, blue.", "zz");
        text(zz + " A thing is usually fixed.", "zz");
        text(zz + " The weight of aa is 5.", "zz");
        text(zz + " Aa likes aa.", "zz");
        text(zz + " A thing can be old or new. Every turn: now aa is old. Aa thing is a kind. Understand \"x\" as waiting. Definition: a thing is odd if aa is fixed.", "zz");
        C.of("2: 0 .. (no such object: 4 at its first token)");
        C.bad(4, "^\"x\"");
        C.bad(4, "A thing is usually fixed. ^\"x\".");
        C.bad(4, "Colour is a kind of value. Colour is red. ^\"x\"");
        C.bad(4, "The description of player is \"x\". ^\"x\"");
        C.good("The hall is a room. \"x\"");
        C.badAgain(4, "^\"x\"");
        C.of("3: (.. 0, 20: at its first token): 5");
        C.bad(5, "The hall is a room. \"x\" ^\"y\"");
        C.good("The hall is a room. \"x\" \"x\"");
    }

    private static void placesThatHold() {
        C.of("2: PLACE: in a container or room, on a supporter, part of a thing, carried or worn by a person");
        String holders = "Zr is a room. Zc is a container. Zs is a supporter. Zp is a person. Zt is a thing. A case is a kind of container. A cave is a kind of room."
            + " A desk is a kind of supporter. A man is a kind of person. Yc is a case. Yr is a cave. Ys is a desk. Yp is a man. ";
        String[] names = {"zr", "zc", "zs", "zp", "zt", "yr", "yc", "ys", "yp", "player"};
        String[] ways = {"in", "on", "part of", "carried by", "worn by"};
        String[] may = {"zr zc yr yc", "zs ys", "zc zs zp zt yc ys yp player", "zp yp player", "zp yp player"};
        for (int way = 0; way < ways.length; way++) {
            for (String name : names) {
                boolean good = (" " + may[way] + " ").contains(" " + name + " ");
                String place = ways[way] + " the " + (good ? "" : "^") + name + ".";
                if (good) {
                    C.good(holders + "The bag is " + place + " The bin is a container " + place);
                    C.place(10, way + 1, C.x.object(11, 2));
                    C.due("what holds it", C.name(2, C.x.object(10, 2)), name);
                    C.due("a thing, if NEW", C.x.object(10, 0), 0);
                } else {
                    C.bad(4, holders + "The bag is " + place);
                    C.bad(4, holders + "The bin is a container " + place);
                }
            }
        }
        C.of("2: (.. in TESTS any THING may stand there)");
        for (String name : names) {
            C.good(holders + "Before taking when noun is in " + name + " and noun is not on " + name + " and noun is part of noun and " + name + " is worn by noun: stop.");
        }
    }

    private static void ones() {
        String all = "Anna and Bert are a thing. The tin and the bag are a thing. Liking relates @ thing to @ thing. The verb to like means the liking relation. ";
        String many = all.replace("@", "various");
        String from = all.replaceFirst("@", "one").replace("@", "various");
        String to = all.replaceFirst("@", "various").replace("@", "one");
        String both = all.replace("@", "one");
        C.of("2: 19 .. The first one: for each object there is one at most that is so related to it");
        C.good(many + "Anna likes the tin. Bert likes the tin. Anna likes the bag. Anna and Bert like anna, bert.");
        C.good(from + "Anna likes the tin. Anna likes the bag, anna and bert. Anna likes the tin.");
        C.bad(5, from + "Anna likes the tin. ^Bert likes the tin.");
        C.bad(5, from + "^The Anna and Bert like the tin.");
        C.bad(5, both + "Anna likes the tin. ^Bert likes the tin.");
        C.of("2: 19 .. the second one: each is so related to one at most");
        C.good(to + "Anna likes the tin. Bert likes the tin. The tin and the bag like the tin. Anna likes the tin.");
        C.bad(5, to + "Anna likes the tin. ^Anna likes the bag.");
        C.bad(5, to + "^Anna likes the tin and the bag.");
        C.bad(5, both + "Anna likes the tin. ^Anna likes the bag.");
        C.good(both + "Anna likes Anna. Bert likes the bag. The tin likes Bert. Anna likes Anna.");
    }
}
