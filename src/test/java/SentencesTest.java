/** Promises 4 and 5, faults 1 and 2: tokens, and the sorts of sentences. */
public final class SentencesTest {
    private static final Checks C = new Checks();

    public static void main(String[] args) {
        tokens();
        texts();
        begun();
        be();
        others();
        tests();
        phrases();
        C.end("SentencesTest");
    }

    private static void tokens() {
        C.bad(2, "^");
        C.bad(2, " \t\r\n [a remark. \" ] ^");
        C.bad(2, "^.");
        C.bad(2, "The hall^");
        C.bad(2, "The hall is a room ^");
        C.bad(1, "The hall is ^abcdefghijklm.");
        C.bad(1, "The a hall is ^abcdefghijklm.");
        C.bad(4, "The hall is a ^abcdefghijkl.");
        C.bad(1, "The weight of the hall is ^1234567.");
        C.bad(4, "The ^weight of the hall is 123456.");
        C.bad(1, "The hall ^[is a room.");
        C.bad(1, "The hall ^] is a room.");
        C.bad(1, "The hall ^$ is a room.");
        C.bad(1, "The hall is a room^- .");
        C.bad(1, "The hall is a room. The ^\u00e9 .");
        C.bad(4, "^The a. $");
        C.bad(2, "The hall is a ^. $");
        C.bad(1, "The hall is a room. ^[");
        C.good("The HALL [x]is[.]a ROOM\t.\r\n[end]", 1);
        C.good("The hall is a room.A thing has a number called weight.The weight of thing is 000007.", 3);
        C.bad(2, "hall^12 is a room.");
        C.bad(2, "The hall ^; is");
    }

    private static void texts() {
        String hall = "The hall is a room. ";
        C.good(hall + "\"\"", 2);
        C.good(hall + "\"" + Checks.times("x", 120) + "\"", 2);
        C.bad(1, hall + "^\"" + Checks.times("x", 121) + "\"");
        C.bad(1, hall + "^\"abc");
        C.bad(1, hall + "^\"a\nc\"");
        C.bad(1, hall + "^\"a\u00e9\"");
        C.bad(1, hall + "^\"a\u007f\"");
        C.good(hall + "\"[ ~\".", 2);
        C.good(hall + "\"x\".The yard is a room.\"y\"The den is a room.", 5);
        // The . may lack: what stands behind the TEXT is another sentence.
        C.bad(2, hall + "\"x\" ^is a room.");
        C.bad(1, hall + "\"x\" ^$ .");
        C.bad(4, "^\"x\" $ .");
        C.bad(2, hall + "\"x\". ^.");
    }

    private static void begun() {
        C.bad(2, "understand ^rub as waiting.");
        C.bad(2, "understand \"rub\" ^waiting.");
        C.bad(2, "understand \"rub\" as ^the waiting.");
        C.bad(2, "understand \"rub\" as waiting^, going.");
        C.bad(2, "Definition ^a thing is red if it is fixed.");
        C.bad(2, "Definition: ^thing is red if it is fixed.");
        C.bad(2, "Definition: a thing ^are red if it is fixed.");
        C.bad(2, "Definition: a thing is red ^when it is fixed.");
        C.bad(2, "Definition: a thing is red if it is fixed^: .");
        C.bad(2, "Definition: a thing is red if it is fixed^; .");
        C.bad(2, "Before ^: stop.");
        C.bad(2, "Before ^the taking: stop.");
        C.bad(2, "Before taking the ^a lamp: stop.");
        C.bad(2, "Before taking ^it: stop.");
        C.bad(2, "Instead ^taking: stop.");
        C.bad(2, "After taking^. ");
        C.bad(2, "Every ^taking: stop.");
        C.bad(2, "Every turn ^taking: stop.");
        C.bad(2, "Every turn when^: stop.");
        C.bad(2, "Every turn:^.");
        C.bad(2, "The verb ^is a thing.");
        C.bad(2, "The verb to like ^is the liking relation.");
        C.bad(2, "The verb to like means ^liking relation.");
        C.bad(2, "The verb to like means the liking^.");
        C.bad(2, "The plural ^is boxes.");
        C.bad(2, "The plural of box ^has boxes.");
        C.bad(2, "The plural of box is ^the boxes.");
        C.bad(2, "The plural of box is boxes ^and crates.");
        C.bad(2, "A ^verb to like means the liking relation.");
    }

    private static void be() {
        C.bad(2, "The weight of lamp is ^a thing.");
        C.bad(2, "The weight of ^is 5.");
        C.bad(2, "A weight ^of lamp is 5.");
        C.bad(2, "Lamp and the weight ^of lamp is 5.");
        C.bad(2, "The lamp is ^5.");
        C.bad(2, "The ^is a thing.");
        C.bad(2, "The lamp, ^, box are a thing.");
        C.bad(2, "The lamp and ^and box are a thing.");
        C.bad(2, "The lamp and^, box are a thing.");
        C.good("The lamp, and box, the bag and a tin are a thing.", 1);
        C.bad(2, "The lamp is a kind ^thing.");
        C.bad(2, "The lamp is the ^kind.");
        C.bad(2, "The lamp is an ^kind.");
        C.bad(2, "The lamp is a ^action.");
        C.bad(2, "The lamp is a kind of ^in.");
        C.bad(2, "The lamp is a kind of value ^thing.");
        C.bad(2, "The lamp is a kind of the ^value.");
        C.bad(2, "Rubbing is an action ^of.");
        C.bad(2, "Rubbing is an action applying ^one thing.");
        C.bad(2, "Rubbing is an action applying to ^a thing.");
        C.bad(2, "Rubbing is an action applying to one ^the thing.");
        C.bad(2, "The lamp is a thing ^of.");
        C.bad(2, "Anna and Bert are people ^in the yard.");
        C.bad(2, "The lamp is part ^in the box.");
        C.bad(2, "The lamp is part ^carried by the box.");
        C.bad(2, "The lamp is carried ^the box.");
        C.bad(2, "The lamp is worn ^in the box.");
        C.bad(2, "The lamp is in ^it.");
        C.bad(2, "The lamp is a thing in ^it.");
        C.bad(2, "The weight of lamp is 5 ^and.");
        C.bad(2, "The lamp is in the box ^and.");
        C.bad(2, "The yard is north of ^.");
        C.bad(2, "The yard is not north ^of hall.");
        C.bad(2, "The lamp is not ^a thing.");
        C.bad(2, "The lamp is not ^not fixed.");
        C.bad(2, "The lamp is usually ^not fixed.");
        C.bad(2, "The lamp is not red^, blue.");
        C.bad(2, "The colours are red, ^the blue.");
        C.bad(2, "The colours are red, blue ^of hall.");
        C.bad(2, "The colours are red and ^.");
    }

    private static void others() {
        C.bad(2, "Box^, bag has a number called weight.");
        C.bad(2, "Box has ^number called weight.");
        C.bad(2, "Box has a number weight^.");
        C.bad(2, "Box has a number called ^a weight.");
        C.bad(2, "Box has a number called ^is.");
        C.bad(2, "Box can ^red or blue.");
        C.bad(2, "Box can be ^a red or blue.");
        C.bad(2, "Box can be red ^and blue.");
        C.bad(2, "Box can be red or blue ^or green.");
        C.bad(2, "Liking relates ^people to things.");
        C.bad(2, "Liking relates one ^various people to one thing.");
        C.bad(2, "Liking relates one person ^and one thing.");
        C.bad(2, "Liking relates one person to ^thing.");
        C.bad(2, "Liking relates one person to one thing ^and.");
        C.bad(2, "The ^a liking relates one person to one thing.");
        C.bad(2, "Anna likes ^of.");
        C.bad(2, "Anna ^it likes.");
        C.bad(2, "^5 likes.");
        C.bad(2, "Anna likes ^5.");
        C.bad(4, "^the a an some and and , , anna.");
    }

    private static void tests() {
        String when = "Every turn when ";
        C.bad(2, when + "^is fixed: stop.");
        C.bad(2, when + "the lamp ^it is fixed: stop.");
        C.bad(2, when + "the lamp likes ^not it: stop.");
        C.bad(2, when + "the lamp likes it and^: stop.");
        C.bad(2, when + "^and it is fixed: stop.");
        C.bad(2, when + "a ^noun is fixed: stop.");
        C.bad(2, when + "the lamp is ^the thing: stop.");
        C.bad(2, when + "the lamp is not ^not fixed: stop.");
        C.bad(2, when + "the lamp is fixed^; stop.");
        C.bad(2, when + "the lamp is fixed ^or fixed: stop.");
        C.bad(2, when + "the lamp is part of ^and: stop.");
        C.bad(2, when + "the weight of lamp is not ^less than 3: stop.");
        C.bad(2, when + "the weight of lamp is less ^3: stop.");
        C.bad(2, when + "the weight of lamp is less than ^x: stop.");
        C.bad(2, when + "the weight of lamp is ^in it: stop.");
        C.bad(2, when + "a weight ^of lamp is 5: stop.");
        C.bad(2, when + "the weight ^of lamp: stop.");
        C.bad(2, when + "the lamp ^are fixed: stop.");
        C.bad(4, when + "^it is in it: stop.");
        C.bad(4, when + "^the noun is not carried by noun: stop.");
        C.bad(4, when + "^a the it noun: stop.");
    }

    private static void phrases() {
        String turn = "Every turn: ";
        C.bad(2, turn + "^5.");
        C.bad(2, turn + "say ^5.");
        C.bad(2, turn + "say \"x\" ^stop.");
        C.bad(2, turn + "stop;^.");
        C.bad(2, turn + "stop^: stop.");
        C.bad(2, turn + "stop ^and stop.");
        C.bad(2, turn + "now ^say.");
        C.bad(2, turn + "now the lamp is fixed ^and the box is fixed.");
        C.bad(2, turn + "now the lamp is not ^in the box.");
        C.bad(2, turn + "now the lamp is ^in the box.");
        C.bad(2, turn + "now the weight of lamp is ^not 5.");
        C.bad(2, turn + "now the weight of lamp is ^less than 5.");
        // Behind now the TEST goes up to the PHRASE's end: there is an is in it.
        C.bad(2, turn + "now anna ^it likes and is.");
        C.bad(2, turn + "move the lamp ^in box.");
        C.bad(2, turn + "move ^to box.");
        C.bad(2, turn + "increase ^a weight of lamp by 5.");
        C.bad(2, turn + "increase the weight ^by 5.");
        C.bad(2, turn + "decrease the weight of lamp ^to 5.");
        C.bad(2, turn + "decrease the weight of lamp by ^lamp.");
        C.bad(2, turn + "try ^the lamp.");
        C.bad(2, turn + "try taking the ^the lamp.");
        C.bad(2, turn + "try taking it ^it.");
        C.bad(2, turn + "try taking a ^noun.");
        C.bad(2, turn + "stop ^noun.");
        C.good(turn + "try waiting; now the player is fixed; try examining the player; say \"\"; stop.", 1);
    }
}
