/** Promises 4 and 5, faults 3, 4 and 7: what words must mean, and READINGS. */
public final class MeaningsTest {
    private static final Checks C = new Checks();
    private static final String WORLD = "The hall is a room. A box is a kind of container. A box can be open or shut."
        + " Colour is a kind of value. The colours are red and blue. A box has a colour called tint."
        + " A thing has a number called weight. The chest is a box in the hall. The lamp is a thing. Anna is a person."
        + " Liking relates various people to one thing. The verb to like means the liking relation."
        + " Rubbing is an action applying to one box. Singing is an action."
        + " Definition: a thing is heavy if the weight of it is more than 3. ";

    public static void main(String[] args) {
        fresh();
        kinds();
        properties();
        objects();
        plain();
        loose();
        definitions();
        acting();
        tests();
        phrases();
        readings();
        C.end("MeaningsTest");
    }

    private static void fresh() {
        C.of("2: NEW: they mean nothing, are three at most, and were not told NEW in this sentence ahead");
        C.bad(3, "A ^thing is a kind.");
        C.bad(3, "A ^things is a kind.");
        C.bad(3, "A ^north is a kind.");
        C.bad(3, "A ^description is a kind.");
        C.good("A box and a very old box are a kind.", 1);
        C.bad(3, "A ^so very old box is a kind.");
        C.bad(3, "Box and ^box are a kind.");
        C.bad(3, "Box is a kind. ^Boxs is a kind.");
        C.bad(3, "Box, ^number, box are a kind of value.");
        C.bad(3, "^Waiting is an action.");
        C.bad(3, "Rubbing and ^rubbing are an action.");
        C.bad(3, "A thing can be ^fixed or loose.");
        C.bad(3, "A thing can be loose or ^loose.");
        C.bad(3, WORLD + "^Red relates one thing to one thing.");
        C.of("2: 7 NEW, one word, which with s at its end means nothing, too; a relation");
        C.bad(3, WORLD + "The verb to ^like means the liking relation.");
        C.bad(3, WORLD + "The verb to ^likes means the liking relation.");
        C.bad(3, WORLD + "The verb to ^really love means the liking relation.");
        C.bad(3, WORLD + "The verb to ^thing means the liking relation.");
        C.bad(3, "Red bin is a kind. Liking relates one thing to one thing. Pens is a kind. The verb to ^pen means the liking relation.");
        C.bad(3, "Liking relates one thing to one thing. Pens is a kind. The verb to ^pen means the liking relation.");
        C.of("2: 8 a kind or TYPE, or their plural; NEW: its plural");
        C.bad(3, "The plural of thing is ^things.");
        C.bad(3, "The plural of thing is ^won two three four.");
        C.bad(3, WORLD + "Definition: a thing is ^open if it is fixed.");
        C.bad(3, WORLD + "Colour is ^red.");
        C.bad(3, WORLD + "Colour is ^blue, red.");
        C.bad(3, WORLD + "Colour is grey, ^grey.");
        C.bad(3, "Box and ^box are a thing.");
        C.bad(3, "Old box, box and ^old box are a thing.");
        C.good("Old box, old bag, old and box old are a thing.", 1);
        C.bad(3, "Box and ^won two three four are a thing.");
        C.bad(3, "The ^won two three four is in the hall.");
        C.bad(3, WORLD + "The ^won two three four is north of the hall.");
        C.bad(3, "A thing has a number called ^won two three four.");
        // Words mean what they mean from the next sentence on.
        C.bad(4, "Box and bag are a kind of ^box.");
        C.bad(4, "The hall is north of the ^hall.");
        // What was a plural means nothing more.
        C.good("Box is a kind. The plural of box is boxes. Boxs is a kind. The plural of boxes is crates. Boxes is a kind.", 5);
        C.due("plural", C.name(11, 5), "crates");
        C.good("Colour is a kind of value. The plural of colours is hues. The hues are red. The colours is a kind.", 4);
        C.good("The plural of number is numbers. A thing has a numbers called weight.", 2);
        C.bad(4, "A thing has a ^numbers called weight.");
        C.bad(4, "The plural of ^player is players.");
        C.bad(4, "The plural of ^players is play.");
    }

    private static void kinds() {
        C.of("2: KIND below: words that mean a kind (no plural)");
        C.bad(4, "A box is a kind of ^things.");
        C.bad(4, "A box is a kind of the ^number.");
        C.bad(4, "Rubbing is an action applying to one ^things.");
        C.bad(4, "Rubbing is an action applying to one ^direction.");
        C.bad(4, "^Things can be red or blue.");
        C.bad(4, "The ^player can be red or blue.");
        C.bad(4, "^Things has a number called weight.");
        C.of("2: 17 KIND; a TYPE or its plural; NEW, or a property");
        C.bad(4, "A thing has a ^thing called weight.");
        C.bad(4, "A thing has a number called ^north.");
        C.good("Colour is a kind of value. A thing has a colours called tint. A room has a colour called tint.", 3);
        C.of("2: 19 NEW; two kinds, or their plurals");
        C.bad(4, "Liking relates one ^player to one thing.");
        C.bad(4, "Liking relates one person to one ^number.");
        C.good("Liking relates one people to various containers.", 1);
        C.of("3: 4 not what it must be: 7 a relation, 1 an action, 2 KIND");
        C.bad(4, WORLD + "The verb to love means the ^like relation.");
        C.bad(4, "Understand \"x\" as ^thing.");
        C.bad(4, "Definition: a ^things is red if it is fixed.");
    }

    private static void properties() {
        C.of("2: 9 a property that the object (or KIND) has; WHAT as its TYPE is (.. where there is no such object or kind: 4 at that only)");
        C.bad(4, WORLD + "The ^tint of the lamp is red.");
        C.bad(4, WORLD + "The ^red of the lamp is red.");
        C.bad(4, WORLD + "The tint of the ^boxs is red.");
        C.bad(4, WORLD + "The ^tint of a thing is red.");
        C.bad(4, WORLD + "The ^tint of a room is red.");
        C.bad(4, WORLD + "The tint of the ^crate is red.");
        C.bad(4, WORLD + "The ^crate of the crate is red.");
        C.bad(4, WORLD + "The tint of the chest is ^5.");
        C.bad(4, WORLD + "The tint of the chest is ^\"red\".");
        C.bad(4, WORLD + "The tint of the chest is ^open.");
        C.bad(4, WORLD + "Mood is a kind of value. Mood is sad. The tint of the chest is ^sad.");
        C.bad(4, WORLD + "The weight of the chest is ^red.");
        C.bad(4, WORLD + "Colour is won two three. The tint of the chest is ^won two three four.");
        C.bad(4, WORLD + "Colour is won two three. The tint of the chest is ^won two.");
        C.bad(4, WORLD + "Colour is dark pink. The tint of the chest is ^dark pink red.");
        C.good(WORLD + "Colour is won two three. The tint of the chest is won two three.");
        C.bad(4, WORLD + "The description of the ^number is \"x\".");
        C.bad(4, WORLD + "The description of the ^colour is \"x\".");
        C.bad(4, WORLD + "The description of the chest is ^5.");
        C.good(WORLD + "The tint of the chest is red. The weight of a box are 5. The description of the hall is \"x\".");
    }

    private static void objects() {
        C.of("2: 12 DESCRIPTION; each in the LIST an object or NEW; PLACE");
        C.bad(4, "A ^thing is a frob.");
        C.bad(4, "The hall is a ^frob.");
        C.bad(4, "Anna is a ^people.");
        C.bad(4, WORLD + "The bag is a ^heavy thing.");
        C.bad(4, WORLD + "The bag is an ^open thing.");
        C.bad(4, WORLD + "The bag is a ^red thing.");
        C.bad(4, WORLD + "The bag is a ^colour.");
        C.bad(4, WORLD + "The ^box is a thing.");
        C.bad(4, WORLD + "The bag is a thing in the ^bag.");
        C.bad(4, WORLD + "The bag is in the ^lamp.");
        C.bad(4, WORLD + "The bag is on the ^chest.");
        C.bad(4, WORLD + "The bag is part of the ^hall.");
        C.bad(4, WORLD + "The bag is carried by the ^chest.");
        C.bad(4, WORLD + "The bag is a box worn by the ^box.");
        C.good(WORLD + "The bag is in the chest. The cap is worn by Anna. The lid is part of the chest.");
        C.bad(4, "^\"x\"");
        C.bad(4, "A box is a kind. A box can be red or blue. A box is usually red. ^\"x\"");
        C.of("2: 14 a direction; an object that is a room; one NAME in the LIST, a room or NEW");
        C.bad(4, WORLD + "The yard and the ^loft are north of the hall.");
        C.bad(4, WORLD + "The yard, the ^loft and den are frob of frob.");
        C.bad(4, WORLD + "The ^lamp and loft are north of the hall.");
        C.bad(4, WORLD + "The ^lamp is north of the hall.");
        C.bad(4, WORLD + "The yard is ^red of the hall.");
        C.bad(4, WORLD + "The yard is north of the ^lamp.");
        C.bad(4, WORLD + "The yard is north of the ^yard.");
        // The latest sentence that had objects: not those of a kind or a TYPE.
        C.good("The hall is a room. The yard is north of the hall. A thing is usually fixed. Colour is a kind of value."
            + " Colour is red. The description of the hall is \"h\". \"y\"");
        C.due("yard", C.text(2, 0), "y");
        C.good("Anna and Bert are people. Bert and Anna are fixed. \"b\"");
        C.due("bert", C.text(2, 0), "b");
    }

    private static void plain() {
        C.of("2: 15 .. each in the LIST is an object, the RUN an ADJECTIVE of its kind");
        C.bad(4, WORLD + "The ^bag is fixed.");
        C.bad(4, "The old red tin is a thing. The ^old red tin box is fixed.");
        C.bad(4, WORLD + "The ^bag is frob.");
        C.bad(4, WORLD + "The lamp is ^frob.");
        C.bad(4, WORLD + "The lamp is ^open.");
        C.bad(4, WORLD + "Lamp is ^open.");
        C.bad(4, WORLD + "Lamp and the chest are ^open.");
        C.bad(4, WORLD + "Chest and lamp are ^open.");
        C.bad(4, WORLD + "The lamp is ^thing.");
        C.bad(4, WORLD + "The lamp is ^things.");
        C.bad(4, WORLD + "The lamp are not ^things.");
        C.bad(4, WORLD + "The lamp are ^heavy things.");
        C.bad(4, WORLD + "The lamp and the ^crate are heavy things.");
        C.bad(4, WORLD + "The lamp is ^heavy.");
        C.bad(4, WORLD + "The chest is not ^red.");
        C.bad(4, WORLD + "The chest and the lamp are ^red.");
        C.bad(4, WORLD + "The chest and the ^bag are red.");
        C.bad(4, WORLD + "The hall is ^fixed.");
        C.good(WORLD + "The chest is red. The chest is not open. The lamp and the bag are things. Carl are people.");
        C.of("2: 15 with usually: one NAME in the LIST, a KIND; an ADJECTIVE of it");
        C.bad(4, WORLD + "The ^chest is usually red.");
        C.bad(4, WORLD + "^Boxs are usually red.");
        C.bad(4, WORLD + "A box and a ^thing are usually fixed.");
        C.bad(4, WORLD + "A box is usually ^heavy.");
        C.bad(4, WORLD + "A thing is usually ^red.");
        C.of("2: 15 (without not), 16, when the LIST is one NAME that means a TYPE or its plural, not number or text (16: so it must be)");
        C.bad(4, WORLD + "The ^colour is not grey.");
        C.bad(4, WORLD + "The ^colour and the chest are red.");
        C.bad(4, "^Number is grey.");
        C.bad(4, "^Text is grey.");
        C.good("The old red tin is a thing. The old red tin is fixed. The old blue tin is a thing.");
        C.bad(4, "^Number is grey, blue.");
        C.bad(4, WORLD + "The ^lamp is grey, blue.");
        C.bad(4, WORLD + "The colour and ^colour are grey, blue.");
        C.bad(4, WORLD + "The ^crate and colour are grey, blue.");
    }

    private static void loose() {
        C.of("2: 20 .. with s if what stands ahead has no and and no , , else without .. a LIST of objects' NAMES, of the two kinds of its relation");
        C.bad(4, WORLD + "^Anna like the lamp.");
        C.bad(4, WORLD + "^The lamp likes the lamp.");
        C.bad(4, WORLD + "^Anna likes the hall.");
        C.bad(4, WORLD + "^Anna likes.");
        C.bad(4, WORLD + "^Likes the lamp.");
        C.bad(4, WORLD + "^Anna, likes the lamp.");
        C.bad(4, WORLD + "^Anna and the player likes the lamp.");
        C.bad(4, WORLD + "^The a Anna likes the lamp.");
        C.bad(4, WORLD + "^Anna likes the lamp,.");
        C.bad(4, WORLD + "^Anna loves the lamp.");
        C.bad(4, WORLD + "^Anna, Anna the Anna like the lamp.");
        C.bad(4, WORLD + "^Anna, Anna like the lamp the lamp.");
        C.bad(4, WORLD + "^Anna, Anna like the lamp a.");
        String boxes = "Sorting relates one supporter to one box. The verb to sort means the sorting relation. The desk is a supporter. The player is on the desk. ";
        C.good(WORLD + boxes + "The desk sorts the chest.");
        C.bad(4, WORLD + boxes + "^The desk sorts the lamp.");
        C.bad(4, WORLD + boxes + "^The chest sorts the chest.");
        C.bad(4, WORLD + boxes + "^The desk, lamp sort the chest.");
        C.good(WORLD + "Nearing relates various rooms to various rooms. The verb to near means the nearing relation. The hall nears the hall.");
        C.bad(4, WORLD + "Nearing relates various rooms to various rooms. The verb to near means the nearing relation. ^The hall nears Anna.");
        C.bad(4, WORLD + boxes + "Every turn when ^the desk sorts the lamp: stop.");
        C.bad(4, WORLD + boxes + "Every turn when ^the lamp sorts the chest: stop.");
        C.good(WORLD + boxes + "Every turn when the desk sorts the chest: now the desk sorts the chest.");
        C.good(WORLD + "The player, and Anna like the lamp.");
        C.good(WORLD + "Anna likes a lamp and lamp.");
    }

    private static void definitions() {
        C.of("2: 2 .. it is of that kind in the TESTS. It is in 2 alone");
        C.bad(4, WORLD + "Definition: a thing is odd if it is ^odd.");
        C.bad(4, WORLD + "Definition: a thing is odd if ^noun is fixed.");
        C.bad(4, WORLD + "Definition: a thing is odd if it is ^open.");
        C.bad(4, WORLD + "Definition: a thing is odd if the ^tint of it is red.");
        C.good(WORLD + "Definition: a box is odd if the tint of it is red and it is heavy and it is not in it and Anna likes it.");
    }

    private static void acting() {
        C.of("2: 3 to 5, with ART RUN: an action of a kind; the last RUN an object of it, or a DESCRIPTION of it or a kind below");
        C.bad(4, WORLD + "Before ^frob: stop.");
        C.bad(4, WORLD + "Before ^taking frob: stop.");
        C.bad(4, WORLD + "Before ^taking hall: stop.");
        C.bad(4, WORLD + "Before ^rubbing lamp: stop.");
        C.bad(4, WORLD + "Before ^singing lamp: stop.");
        C.bad(4, WORLD + "Before ^going north: stop.");
        C.bad(4, WORLD + "Before ^frob the lamp: stop.");
        C.bad(4, WORLD + "Before singing the ^lamp: stop.");
        C.bad(4, WORLD + "Before singing a ^thing: stop.");
        C.bad(4, WORLD + "Before singing an ^open box: stop.");
        C.bad(4, WORLD + "Before taking the ^hall: stop.");
        C.bad(4, WORLD + "Before taking a ^room: stop.");
        C.bad(4, WORLD + "Before taking a ^boxs: stop.");
        C.bad(4, WORLD + "Before rubbing a ^thing: stop.");
        C.bad(4, WORLD + "Before taking a ^red thing: stop.");
        C.good(WORLD + "Before taking chest: stop. Before taking the chest: stop. Before rubbing a heavy open red box: stop."
            + " Before going: stop. Before taking: stop. Before singing: stop.");
    }

    private static void tests() {
        C.of("2: Noun is of the object's kind, of the DESCRIPTION's, else of the action's; of actions of no kind or directions, and in 6, there is none");
        String taking = WORLD + "Before taking when ";
        C.bad(4, taking + "^it is fixed: stop.");
        C.bad(4, WORLD + "Every turn when ^the noun is fixed: stop.");
        C.bad(4, WORLD + "Before taking when the noun is fixed: stop. Every turn when ^the noun is fixed: stop.");
        C.bad(4, WORLD + "Before taking when the noun is fixed: stop. Before singing when ^the noun is fixed: stop.");
        C.bad(4, WORLD + "Before taking when the noun is fixed: stop. Before going when ^noun is fixed: stop.");
        C.bad(4, WORLD + "Definition: a thing is odd if it is fixed. Every turn when ^it is fixed: stop.");
        C.bad(4, WORLD + "Definition: a thing is odd if it is fixed. Before taking when ^it is fixed: stop.");
        C.bad(4, WORLD + "Before taking when noun is fixed: stop. Definition: a thing is odd if ^noun is fixed.");
        C.bad(4, WORLD + "Before taking a box when noun is open: stop. Before taking when noun is ^open: stop.");
        C.bad(4, WORLD + "Before singing when ^noun is fixed: stop.");
        C.bad(4, WORLD + "Before going when ^noun is fixed: stop.");
        C.bad(4, taking + "the ^box is fixed: stop.");
        C.bad(4, taking + "the noun is ^open: stop.");
        C.good(WORLD + "Before taking a box when the noun is open and noun is red: stop.");
        C.good(WORLD + "Before taking chest when the noun is open: stop.");
        C.good(WORLD + "Before rubbing when the tint of noun is not red: stop.");
        C.bad(4, taking + "the chest is not ^red: stop.");
        C.bad(4, taking + "the chest is in ^frob: stop.");
        C.good(taking + "the hall is carried by the lamp: stop.");
        C.bad(4, taking + "the ^tint of noun is red: stop.");
        C.bad(4, taking + "the ^frob of frob is red: stop.");
        C.bad(4, taking + "the tint of ^frob is red: stop.");
        C.bad(4, taking + "the tint of ^it is red: stop.");
        C.bad(4, taking + "the tint of the chest is ^5: stop.");
        C.bad(4, taking + "the ^tint of the chest is less than 5: stop.");
        C.bad(4, taking + "the ^tint of frob is more than 5: stop.");
        C.bad(4, taking + "the weight of ^frob is more than 5: stop.");
        C.bad(4, taking + "^the noun likes the lamp: stop.");
        C.bad(4, taking + "^Anna like the lamp: stop.");
        C.bad(4, taking + "^Anna likes it: stop.");
        C.bad(4, taking + "^Anna: stop.");
        C.good(taking + "Anna likes the noun: stop.");
    }

    private static void phrases() {
        C.of("2: In TESTS and PHRASES .. less, more, increase, decrease: a number, in any case. move: a THING of thing or a kind below. try");
        String taking = WORLD + "Before taking: ";
        C.bad(4, taking + "now the noun is ^heavy.");
        C.bad(4, taking + "now the chest is not ^red.");
        C.bad(4, taking + "now ^it is fixed.");
        C.bad(4, taking + "now the ^tint of noun is red.");
        C.bad(4, taking + "now the weight of noun is ^red.");
        C.bad(4, taking + "now ^noun likes Anna.");
        C.bad(4, taking + "move the ^hall to the noun.");
        C.bad(4, taking + "move the ^frob to the noun.");
        C.bad(4, taking + "move the noun to the ^frob.");
        C.bad(4, taking + "move the noun to ^it.");
        C.bad(4, taking + "increase the ^tint of the chest by 5.");
        C.bad(4, taking + "increase the ^tint of the frob by 5.");
        C.bad(4, taking + "decrease the ^weight of the hall by 5.");
        C.bad(4, taking + "decrease the weight of the ^frob by 5.");
        C.bad(4, taking + "try ^taking.");
        C.bad(4, taking + "try ^going.");
        C.bad(4, taking + "try ^going north.");
        C.bad(4, taking + "try ^singing lamp.");
        C.bad(4, taking + "try ^frob the lamp.");
        C.bad(4, taking + "try taking the ^frob.");
        C.bad(4, taking + "try taking ^it.");
        C.good(taking + "try singing; try taking hall; try rubbing the hall; try rubbing noun; move the noun to the hall.");
    }

    private static void readings() {
        String both = "A box can be open or shut. Colour is a kind of value. Colour is red. A box has a colour called tint."
            + " A box has a colour called trim. The chest is a box. A thing has a colour called glow. ";
        String box = "A box is a kind. ";
        C.of("2: .. a property that it has: each by its own kind");
        C.good("A box is a kind. A bin is a kind. Colour is a kind of value. Colour is red, blue. A box has a colour called tint. A bin has a colour called trim. The tin is a box."
            + " The pot is a bin. The lid is a box. Tin, pot and lid are blue.");
        C.due("tint of the tin", C.x.property(1, 1), 1);
        C.due("trim of the pot", C.x.property(2, 2), 1);
        C.due("tint of the lid", C.x.property(3, 1), 1);
        C.of("3: 7 two READINGS or more");
        C.bad(7, box + both + "The bag is a ^red box.");
        C.bad(7, box + both + "The chest is ^red.");
        C.bad(4, box + both + "The hall is a room. The chest and the hall are ^red.");
        C.bad(7, box + both + "The player and the chest are ^red.");
        C.bad(7, box + both + "A box is usually ^red.");
        C.bad(7, box + both + "Before taking a ^red box: stop.");
        C.bad(7, box + both + "Every turn when the chest is ^red: stop.");
        C.bad(7, box + both + "Every turn: now the chest is ^red.");
        C.good(box + both + "The player is red. The tint of the chest is red.");
        C.of("2: each way to part it so is a READING");
        String parts = "A thing can be old or odd. A thing can be big or so. A thing can be old big or tiny. ";
        C.bad(7, parts + "The bag is an ^old big thing.");
        C.good(parts + "The bag is a big old thing. The tin is an old so fixed thing.");
        C.bad(4, parts + "The bag is an ^odd odd odd odd odd odd thing.");
        C.of("2: words of one to three: the ways to part a RUN");
        C.good("A thing can be old big or tiny. A thing can be big or small. Definition: a thing is old if it is fixed. The tin is an old big thing.");
        C.due("the tin is old big", C.x.is(1, 2), 1);
        C.due("the tin is not big", C.x.is(1, 4), 0);
        C.good("A thing can be old or new. A thing can be very old or very new. The tin is a very old thing. The bag is an old very new thing.");
        C.due("the tin is very old", C.x.is(1, 4), 1);
        C.due("the tin is not old", C.x.is(1, 2), 0);
        C.due("the bag is old", C.x.is(2, 2), 1);
        C.due("the bag is very new", C.x.is(2, 5), 1);
        C.good("A thing can be old or new. A thing can be old big or new big. The tin is an old big thing. The bag is a new big old thing.");
        C.due("the tin is old big", C.x.is(1, 4), 1);
        C.due("the tin is not old", C.x.is(1, 2), 0);
        C.due("the bag is old", C.x.is(2, 2), 1);
        C.due("the bag is new big", C.x.is(2, 5), 1);
        C.good(parts + "The bag is an odd so odd so fixed thing.");
        C.bad(7, parts + "Big thing is a kind. The bag is an ^odd big thing.");
        C.bad(7, parts + "Big thing is a kind. The bag and bin are ^odd big things.");
        C.good("Very big box is a kind. A thing can be so very old or new. The tin is a so very old very big box. The bag is a fixed very big box.");
        C.due("a kind of three words", C.x.object(1, 0), 5);
        C.due("an adjective of three words", C.x.is(1, 2), 1);
        C.due("an adjective of one word", C.x.is(2, 0), 1);
        C.bad(4, "Very big box is a kind. A thing can be so very old or new. The tin is a ^so very old fixed very big box.");
        C.good("A box is a kind. A red box is a kind. A box can be red or blue. A box can be odd or even. A box can be new or used."
            + " The tin is an odd new red box.");
        C.due("one kind has a READING", C.x.object(1, 0), 5);
        C.due("odd", C.x.is(1, 4), 1);
        C.due("new", C.x.is(1, 6), 1);
        C.due("red", C.x.is(1, 2), 1);
        C.of("2: 3 to 5 .. the last RUN an object of it, or a DESCRIPTION .. Without, READINGS: the RUN is an action; or an action of a kind and an object");
        C.bad(7, parts + "The big thing is a thing. Before taking the ^big thing: stop.");
        C.bad(7, "Rub and rub hot are an action applying to one thing. Hot tin and tin are a thing. Before ^rub hot tin: stop.");
        C.bad(7, "Rub and rub hot are an action applying to one thing. Hot tin and tin are a thing. Every turn: try ^rub hot tin.");
        C.bad(7, "Rub is an action applying to one thing. Tin is a thing. Rub tin is an action. Before ^rub tin: stop.");
        C.of("2: (asked, too, when the RUN is nothing at all, or is both: two READINGS, and no more is asked of it)");
        C.bad(7, "A thing can be big things or so. A thing can be big or odd. The player are ^big things.");
        C.bad(4, "A thing can be big things or so. A thing can be big or odd. The ^bag are big things.");
        C.good("A thing can be big things or so. The player are big things. A thing can be big or odd. The player is big things.");
        C.of("2: 20 READINGS: a FREE word that is a verb; SAYING: likewise");
        C.bad(7, "Liking relates various things to various things. The verb to like means the liking relation."
            + " The verb to love means the liking relation. Anna, anna likes, loves bert and bert are a thing."
            + " ^Anna likes loves bert.");
        C.bad(7, "Liking relates various things to various things. The verb to like means the liking relation."
            + " The verb to love means the liking relation. Anna, anna likes, loves bert and bert are a thing."
            + " Every turn when ^the anna likes loves bert: stop.");
    }
}
