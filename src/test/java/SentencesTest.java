/** Promises 4 and 5, faults 1 and 2: tokens, and the sorts of sentences. */
public final class SentencesTest {
    private static final Checks C = new Checks();

    public static void main(String[] args) {
        tape();
        bytes();
        tokens();
        texts();
        keys();
        begun();
        be();
        tellers();
        others();
        tests();
        phrases();
        C.end("SentencesTest");
    }

    private static void tape() {
        C.of("1: places on it are counted from 0");
        C.bad(2, "^, The hall is a room.");
        C.bad(2, " ^, The hall is a room.");
        C.of("3: 2 .. the TAPE's end, if there is no sentence");
        C.bad(2, "^");
        C.bad(2, " ^");
        C.bad(2, " \t\r\n [a remark. \" ] ^");
        C.of("3: 2 the first token (the end of the TAPE, too) with which it is of no sort");
        C.bad(2, "^.");
        C.bad(2, "The hall is a room. ^.");
        C.bad(2, "The^");
        C.bad(2, "The hall^");
        C.bad(2, "The hall is^");
        C.bad(2, "The hall is a^");
        C.bad(2, "The hall is a room^");
        C.bad(2, "The hall is a room [.] ^");
        C.bad(2, "The hall is a room. The hall [.]\t^");
    }

    private static void bytes() {
        C.of("1: BLANKS (9, 10, 13, 32)");
        C.good("\t\n\r The\thall\nis\ra room.\r\n\t ", 1);
        C.of("1: No token is .. any other byte");
        String story = "The hall is a room. ";
        for (int b = 0; b < 256; b++) {
            char c = (char) b;
            boolean letter = b >= 'a' && b <= 'z' || b >= 'A' && b <= 'Z';
            boolean sign = c == '.' || c == ';' || c == ':';
            if (b == 9 || b == 10 || b == 13 || b == 32) {
                C.good(story + c, 1);
            } else if (letter || c == ',') {
                C.bad(2, story + c + "^");
            } else if (sign || b >= '0' && b <= '9') {
                C.bad(2, story + "^" + c);
            } else {
                C.badAt(1, story + c, story.length());
            }
        }
    }

    private static void tokens() {
        C.of("1: REMARKS ([ up to the next ])");
        C.good("[]The[x]hall[ \" . ]is[ [ ]a[\n\u00ff\u0000]room[.].[end]", 1);
        C.good("[one][two] [three]The hall is a room.", 1);
        C.due("the words", C.name(2, 1), "hall");
        C.good("The ha[x]ll is a room.", 1);
        C.due("a REMARK is between two WORDS", C.name(2, 1), "ha ll");
        C.of("1: No token is .. a [ .. not as told");
        C.bad(1, "^[");
        C.bad(1, "The hall ^[is a room.");
        C.bad(1, "The hall is a room. [x] ^[x");
        C.bad(1, "The hall ^] is a room.");
        C.bad(1, "The hall [[x]^] is a room.");
        C.of("1: TOKENS, each as long as may be");
        C.bad(2, "hall^12 is a room.");
        C.bad(2, "The weight of the hall is 12^x.");
        C.bad(2, "The hall ^; is");
        C.bad(4, "^The hall isa room.");
        C.good("The hallis is a room.", 1);
        C.good("The hall is a room.A thing has a number called weight.The weight of thing is 000007.", 3);
        C.of("1: A .. Z count as a .. z");
        C.good("THE HALL Is A rOOM. \"x\" tHE DescripTION OF hALL IS \"x\".", 3);
        C.good("The abcdefghijkl is a thing. The mnopqrstuvwx is a thing. The yz is a thing. The ABCDEFGHIJKL, MNOPQRSTUVWX and YZ are fixed.", 4);
        C.of("1: WORDS .. 12 bytes at most");
        C.good("The abcdefghijkl is a thing.", 1);
        C.bad(1, "The ^abcdefghijklm is a thing.");
        C.bad(1, "The hall is ^abcdefghijklm.");
        C.bad(4, "The hall is a ^abcdefghijkl.");
        C.bad(1, "The ^" + Checks.times("x", 300) + " is a thing.");
        C.of("1: NUMBERS (figures), 6 at most");
        String weight = "A thing has a number called weight. The weight of the player is ";
        C.good(weight + "999999.", 2);
        C.due("six figures", C.x.property(0, 1), 999999);
        C.good(weight + "000001.", 2);
        C.due("figures ahead", C.x.property(0, 1), 1);
        C.good(weight + "0.", 2);
        C.bad(1, weight + "^1000000.");
        C.bad(1, weight + "^0000001.");
        C.bad(1, weight + "^" + Checks.times("9", 300) + ".");
        C.of("3: 1 what is no token up to the . at its end. Else 2");
        C.bad(1, "The a hall is ^abcdefghijklm.");
        C.bad(1, "is is ^$");
        C.bad(2, "The hall is a ^. $");
        C.bad(4, "^The a. $");
        C.bad(1, "^$");
        C.bad(1, "^- $ % .");
        C.bad(1, "The hall is a room^- .");
        C.bad(1, "The hall is a room. The ^\u00e9 .");
        C.of("3: of the first sentence that has one");
        C.bad(4, "The hall is a ^frob. The den is. The $.");
        C.bad(2, "The hall is a room. The den is ^. The hall is a frob. $");
        C.bad(1, "The hall is a room. The ^$ is. The hall is a frob.");
    }

    private static void texts() {
        String hall = "The hall is a room. ";
        C.of("1: TEXTS .. 0 .. 120 bytes");
        C.good(hall + "\"\"", 2);
        C.due("an empty TEXT", C.x.property(1, 0), 0);
        C.good(hall + "\"" + Checks.times("x", 120) + "\"", 2);
        C.due("the longest TEXT", C.x.property(1, 0), 120);
        C.bad(1, hall + "^\"" + Checks.times("x", 121) + "\"");
        C.bad(1, hall + "^\"" + Checks.times("x", 300) + "\"");
        C.of("1: TEXTS .. each 32 .. 126");
        for (int b = 0; b < 256; b++) {
            if (b >= 32 && b <= 126) {
                C.good(hall + "\"a" + (char) (b == '"' ? 32 : b) + "c\"", 2);
                C.due("the byte in it", C.x.letter(1, 0, 1), b == '"' ? 32 : b);
            } else {
                C.bad(1, hall + "^\"a" + (char) b + "c\"");
            }
        }
        C.of("1: TEXTS (\" up to the next \"; ..) .. a \" not as told");
        C.bad(1, hall + "^\"");
        C.bad(1, hall + "^\"abc");
        C.bad(1, hall + "^\"abc.");
        C.bad(1, hall + "\"abc\" ^\"");
        C.good(hall + "\"[ ~;.\".", 2);
        C.due("as it stands", C.text(1, 0), "[ ~;.");
        C.of("1: each up to a . (behind the TEXT of 0 it may lack)");
        C.good(hall + "\"x\".The yard is a room.\"y\"The den is a room.", 5);
        C.good(hall + "\"x\".Yard is a room.\"y\"Den is a room.\"z\"", 6);
        C.due("the yard", C.name(2, 2), "yard");
        C.due("the den", C.name(2, 3), "den");
        C.good(hall + "\"x\" [.] . \"x\" [.]", 3);
        C.bad(2, hall + "\"x\" ^is a room.");
        C.bad(1, hall + "\"x\" ^$ .");
        C.bad(2, hall + "\"x\". ^.");
        C.bad(2, "The description of the player is \"x\"^");
        C.bad(2, "The description of the player is \"x\" ^The hall is a room.");
    }

    private static void keys() {
        String[] keys = ("a an the some is are not of in on by to has can be or and called kind plural value relates one various means verb relation action applying"
            + " part carried worn usually understand as definition if when before instead after every turn say now move increase decrease stop try than less more noun it")
            .split(" ");
        C.due("how many", keys.length, 55);
        C.of("1: KEYS are the WORDS ..");
        for (String key : keys) {
            C.bad(2, "A ^" + key + " is a thing.");
        }
        C.of("1: all others are FREE");
        for (String key : keys) {
            C.good("A z" + key + " is a thing.", 1);
            C.good("A " + key + "z is a thing.", 1);
        }
        C.good("Being, direction, yes, with, then, for, from, at, was, will, nothing, no, its, they, and them are a thing.", 1);
    }

    private static void begun() {
        C.of("1: 1 understand TEXT as RUN");
        C.bad(2, "understand ^rub as waiting.");
        C.bad(2, "understand \"rub\" ^waiting.");
        C.bad(2, "understand \"rub\" as ^the waiting.");
        C.bad(2, "understand \"rub\" as waiting^, going.");
        C.of("1: 2 definition : ART RUN is RUN if TESTS");
        C.bad(2, "Definition ^a thing is red if it is fixed.");
        C.bad(2, "Definition: ^thing is red if it is fixed.");
        C.bad(2, "Definition: a thing ^are red if it is fixed.");
        C.bad(2, "Definition: a thing is red ^when it is fixed.");
        C.bad(2, "Definition: a thing is red if it is fixed^: .");
        C.bad(2, "Definition: a thing is red if it is fixed^; .");
        C.of("1: 3 before ACTING (when TESTS) : PHRASES; 4; 5 instead of; ACTING: RUN (ART RUN)");
        C.bad(2, "Before ^: stop.");
        C.bad(2, "Before ^the taking: stop.");
        C.bad(2, "Before taking the ^a lamp: stop.");
        C.bad(2, "Before taking ^it: stop.");
        C.bad(2, "Instead ^taking: stop.");
        C.bad(2, "After taking^. ");
        C.of("1: 6 every turn (when TESTS) : PHRASES");
        C.bad(2, "Every ^taking: stop.");
        C.bad(2, "Every turn ^taking: stop.");
        C.bad(2, "Every turn when^: stop.");
        C.bad(2, "Every turn:^.");
        C.of("1: 7 the verb to RUN means the RUN relation");
        C.bad(2, "The verb ^is a thing.");
        C.bad(2, "The verb to like ^is the liking relation.");
        C.bad(2, "The verb to like means ^liking relation.");
        C.bad(2, "The verb to like means the liking^.");
        C.of("1: 8 the plural of NAME BE RUN");
        C.bad(2, "The plural ^is boxes.");
        C.bad(2, "The plural of box ^has boxes.");
        C.bad(2, "The plural of box is ^the boxes.");
        C.bad(2, "The plural of box is boxes ^and crates.");
        C.bad(2, "A ^verb to like means the liking relation.");
    }

    private static void be() {
        C.of("1: 9 the RUN of NAME BE WHAT, if it begins the RUN of, ahead of that BE");
        C.bad(2, "The weight of lamp is ^a thing.");
        C.bad(2, "The weight of ^is 5.");
        C.bad(2, "A weight ^of lamp is 5.");
        C.bad(2, "Lamp and the weight ^of lamp is 5.");
        C.bad(2, "The lamp is ^5.");
        C.of("1: LIST: NAMES with and, with , or with , and between. NAME: a RUN, perhaps with an ART ahead");
        C.bad(2, "The ^is a thing.");
        C.bad(2, "The lamp, ^, box are a thing.");
        C.bad(2, "The lamp and ^and box are a thing.");
        C.bad(2, "The lamp and^, box are a thing.");
        C.good("The lamp, and box, the bag and a tin are a thing.", 1);
        C.of("1: 10 a kind (of value, or of NAME) (Words of a sort stand as they are: a kind with a)");
        C.bad(2, "The lamp is a kind ^thing.");
        C.bad(2, "The lamp is the ^kind.");
        C.bad(2, "The lamp is an ^kind.");
        C.bad(2, "The lamp is a ^action.");
        C.bad(2, "The lamp is a kind of ^in.");
        C.bad(2, "The lamp is a kind of value ^thing.");
        C.bad(2, "The lamp is a kind of the ^value.");
        C.of("1: 11 an action (applying to one RUN)");
        C.bad(2, "Rubbing is an action ^of.");
        C.bad(2, "Rubbing is an action applying ^one thing.");
        C.bad(2, "Rubbing is an action applying to ^a thing.");
        C.bad(2, "Rubbing is an action applying to one ^the thing.");
        C.of("1: 12 ART RUN (PLACE); 13 PLACE: in, on, part of, carried by or worn by, then NAME");
        C.bad(2, "The lamp is a thing ^of.");
        C.bad(2, "Anna and Bert are people ^in the yard.");
        C.bad(2, "The lamp is part ^in the box.");
        C.bad(2, "The lamp is part ^carried by the box.");
        C.bad(2, "The lamp is carried ^the box.");
        C.bad(2, "The lamp is worn ^in the box.");
        C.bad(2, "The lamp is in ^it.");
        C.bad(2, "The lamp is a thing in ^it.");
        C.bad(2, "The weight of lamp is 5 ^and.");
        C.bad(2, "The lamp is in the box ^and.");
        C.of("1: 14 RUN of NAME; 15 (not or usually) RUN; 16 RUN, and RUNS, as in a LIST without ART");
        C.bad(2, "The yard is north of ^.");
        C.bad(2, "The yard is not north ^of hall.");
        C.bad(2, "The lamp is not ^a thing.");
        C.bad(2, "The lamp is not ^not fixed.");
        C.bad(2, "The lamp is usually ^not fixed.");
        C.bad(2, "The lamp is not red^, blue.");
        C.bad(2, "The colours are red, ^the blue.");
        C.bad(2, "The colours are red, blue ^of hall.");
        C.bad(2, "The colours are red and ^.");
    }

    private static void tellers() {
        C.of("1: Of all others the first is, are, has, can or relates up to the . tells more");
        C.bad(2, "Box has a number called ^is.");
        C.bad(2, "Box is ^has a number called weight.");
        C.bad(2, "Box can ^relates one thing to one thing.");
        C.bad(2, "Box relates ^can be red or blue.");
        C.bad(2, "Box are ^relates.");
        C.bad(2, "The weight has ^of box is 5.");
        C.bad(2, "The weight ^of box has a number called weight.");
        C.bad(2, "The weight ^of box. The weight of box is 5.");
        C.bad(2, "The ^a box is a thing.");
        C.bad(4, "^The a box. The box is a thing.");
        C.bad(2, "Box^, bag has a number called weight.");
        C.bad(2, "The box ^in");
        C.of("1: told by how they begin");
        C.bad(2, "The verb ^has a number called weight.");
        C.bad(2, "The plural ^is a thing.");
        C.bad(2, "Understand ^is a thing.");
        C.bad(2, "Definition ^is a thing.");
        C.bad(2, "Before ^is a thing.");
        C.bad(2, "After ^can be red or blue.");
        C.bad(2, "Instead ^is a thing.");
        C.bad(2, "Every ^is a thing.");
    }

    private static void others() {
        C.of("1: 17 NAME has ART RUN called RUN");
        C.bad(2, "Box^, bag has a number called weight.");
        C.bad(2, "Box has ^number called weight.");
        C.bad(2, "Box has a number weight^.");
        C.bad(2, "Box has a number called ^a weight.");
        C.bad(2, "Box has a number called ^is.");
        C.of("1: 18 NAME can be RUN or RUN");
        C.bad(2, "Box can ^red or blue.");
        C.bad(2, "Box can be ^a red or blue.");
        C.bad(2, "Box can be red ^and blue.");
        C.bad(2, "Box can be red or blue ^or green.");
        C.of("1: 19 NAME relates one|various RUN to one|various RUN");
        C.bad(2, "Liking relates ^people to things.");
        C.bad(2, "Liking relates one ^various people to one thing.");
        C.bad(2, "Liking relates one person ^and one thing.");
        C.bad(2, "Liking relates one person to ^thing.");
        C.bad(2, "Liking relates one person to one thing ^and.");
        C.bad(2, "The ^a liking relates one person to one thing.");
        C.of("1: 20: FREE words, ARTS, and , in any order, one or more");
        C.bad(2, "Anna likes ^of.");
        C.bad(2, "Anna ^it likes.");
        C.bad(2, "^5 likes.");
        C.bad(2, "Anna likes ^5.");
        C.bad(4, "^the a an some and and , , anna.");
    }

    private static void tests() {
        String when = "Every turn when ";
        C.of("1: TEST, up to the next and . : or ; With an is in it .. Without: a SAYING");
        C.bad(2, when + "^is fixed: stop.");
        C.bad(2, when + "the lamp ^it is fixed: stop.");
        C.bad(2, when + "the lamp likes ^not it: stop.");
        C.bad(2, when + "the lamp likes it and^: stop.");
        C.bad(2, when + "^and it is fixed: stop.");
        C.bad(2, when + "a ^noun is fixed: stop.");
        C.bad(2, when + "the lamp is ^the thing: stop.");
        C.bad(2, when + "the lamp is not ^not fixed: stop.");
        C.bad(2, when + "the lamp is fixed^; stop.");
        C.bad(2, when + "the lamp is fixed ^or fixed: stop.");
        C.bad(2, when + "the lamp is part of ^and: stop.");
        C.bad(2, when + "the weight of lamp is not ^less than 3: stop.");
        C.bad(2, when + "the weight of lamp is less ^3: stop.");
        C.bad(2, when + "the weight of lamp is less than ^x: stop.");
        C.bad(2, when + "the weight of lamp is ^in it: stop.");
        C.bad(2, when + "a weight ^of lamp is 5: stop.");
        C.bad(2, when + "the weight ^of lamp: stop.");
        C.bad(2, when + "the lamp ^are fixed: stop.");
        C.bad(4, when + "^it is in it: stop.");
        C.bad(4, when + "^the noun is not carried by noun: stop.");
        C.bad(4, when + "^a the it noun: stop.");
    }

    private static void phrases() {
        String turn = "Every turn: ";
        C.of("1: PHRASE, up to the next ; or . : say; now, but no PLACE, less, more, and not only with THING is; move; increase|decrease; try; stop");
        C.bad(2, turn + "^5.");
        C.bad(2, turn + "say ^5.");
        C.bad(2, turn + "say \"x\" ^stop.");
        C.bad(2, turn + "stop;^.");
        C.bad(2, turn + "stop^: stop.");
        C.bad(2, turn + "stop ^and stop.");
        C.bad(2, turn + "now ^say.");
        C.bad(2, turn + "now the lamp is fixed ^and the box is fixed.");
        C.bad(2, turn + "now the lamp is not ^in the box.");
        C.bad(2, turn + "now the lamp is ^in the box.");
        C.bad(2, turn + "now the weight of lamp is ^not 5.");
        C.bad(2, turn + "now the weight of lamp is ^less than 5.");
        // Behind now the TEST goes up to the PHRASE's end: there is an is in it.
        C.bad(2, turn + "now anna ^it likes and is.");
        C.bad(2, turn + "move the lamp ^in box.");
        C.bad(2, turn + "move ^to box.");
        C.bad(2, turn + "increase ^a weight of lamp by 5.");
        C.bad(2, turn + "increase the weight ^by 5.");
        C.bad(2, turn + "decrease the weight of lamp ^to 5.");
        C.bad(2, turn + "decrease the weight of lamp by ^lamp.");
        C.bad(2, turn + "try ^the lamp.");
        C.bad(2, turn + "try taking the ^the lamp.");
        C.bad(2, turn + "try taking it ^it.");
        C.bad(2, turn + "try taking a ^noun.");
        C.bad(2, turn + "stop ^noun.");
        C.good(turn + "try waiting; now the player is fixed; try examining the player; say \"\"; stop.", 1);
    }
}
