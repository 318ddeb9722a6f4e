/** Promise 17: COMMANDS, and fault 8 of what they mean. */
public final class CommandsTest {
    private static final Checks C = new Checks();

    public static void main(String[] args) {
        first();
        told();
        sizes();
        atGap();
        texts();
        C.end("CommandsTest");
    }

    private static void first() {
        C.of("5: AT FIRST: wait; take [thing], get [thing]; drop [thing]; examine [thing]; go [direction], [direction]: for actions 0; 1, 1; 2; 3; 4, 4");
        C.good("The hall is a room. The yard is north of the hall. The old tin is a thing in the hall. \"Tin.\" The rock is a fixed thing.");
        C.due("wait", C.command("wait"), 0);
        C.due("Take OLD tin", C.command("Take OLD tin"), 0);
        C.place(3, 4, 0);
        C.due("get old tin", C.command("get   old tin "), 3);
        C.due("take rock", C.command("take rock"), 3);
        C.due("drop old tin", C.command(" drop old tin"), 0);
        C.due("examine old tin", C.command("examine old tin"), 0);
        C.due("what it says", C.said(), "Tin.\n");
        C.due("go north", C.command("go north"), 0);
        C.place(0, 1, 2);
        C.due("south", C.command("SOUTH"), 0);
        C.place(0, 1, 1);
        C.due("down", C.command("down"), 3);
        String[] none = {"", " ", "wait wait", "take", "take tin", "take the old tin", "take old tin now", "take hall", "take north", "go", "go hall", "hall",
            "north north", "wait.", "wait\n", "wa1t", "take\told tin", "go north\u0000", "waitwaitwaitwait"};
        for (String typed : none) {
            C.due("command <" + typed + ">", C.command(typed), -2);
        }
        C.due("tape behind it", C.x.wipe(), 0);
        C.due("fifty words", C.command(Checks.times("wait ", 50)), -2);
        C.due("fifty-one words", C.command(Checks.times("wait ", 51)), -2);
        C.due("a long word", C.command("take " + Checks.times("x", 300)), -2);
    }

    private static void told() {
        C.of("5: A COMMAND fits, when it is these words, with an object's words of that kind (a direction) at [ ]. The first told that fits counts");
        C.good("A box is a kind. The bag is a box. The tin is a thing. Rubbing is an action applying to one thing. Singing is an action. The hall is a room."
            + " Understand \"Rub [box] now\" as rubbing. Understand \"rub [thing] now\" as rubbing. Understand \"[BOX]\" as rubbing."
            + " Understand \"wait\" as singing. Understand \"sing a song of the day or so\" as singing. Understand \"hum\" as waiting."
            + " Understand \"walk [direction] on\" as going. Instead of rubbing: say \"[noun]\". Instead of singing: say \"la\". After waiting: say \"w\".");
        C.due("COMMANDS", C.x.told(10), 14);
        C.due("rub bag now", C.command("rub bag now"), 2);
        C.due("said", C.said(), "bag\n");
        C.due("rub tin now", C.command("rub tin now"), 2);
        C.due("said", C.said(), "tin\n");
        C.due("bag", C.command("bag"), 2);
        C.due("tin", C.command("tin"), -2);
        C.due("rub hall now", C.command("rub hall now"), -2);
        C.due("rub now", C.command("rub now"), -2);
        C.x.clear();
        C.due("the first told counts", C.command("wait"), 0);
        C.due("said", C.said(), "w\n");
        C.due("sing", C.command("sing a song of the day or so"), 2);
        C.due("hum", C.command("hum"), 0);
        C.due("walk", C.command("walk up on"), 3);
        C.due("walk", C.command("walk bag on"), -2);
        C.good("The abcdefghijkl is a thing. Understand \"grabgrabgrab [thing]\" as taking. Instead of taking: stop.");
        C.due("twelve letters", C.command("grabgrabgrab abcdefghijkl"), 2);
        C.due("thirteen letters", C.command("grabgrabgrabb abcdefghijkl"), -2);
        C.due("thirteen letters", C.command("grabgrabgrab abcdefghijklm"), -2);
        // The player is of a kind below thing; a [ ] of a kind takes what is of that kind by now.
        C.good("The bag is a thing. Rubbing is an action applying to one container. Understand \"rub [container]\" as rubbing. The bag is a container.");
        C.due("rub bag", C.command("rub bag"), 0);
        C.due("rub player", C.command("rub player"), -2);
    }

    private static void sizes() {
        C.of("5: The TEXT of 1 has 1 to 8 words, each of 12 letters at most");
        String as = "Singing is an action. Instead of singing: stop. Understand ";
        C.good(as + "\"a\" as singing.");
        C.due("one word", C.command("a"), 2);
        C.good(as + "\"a b c d e f g h\" as singing.");
        C.due("eight words", C.command("a b c d e f g h"), 2);
        C.due("seven words", C.command("a b c d e f g"), -2);
        C.due("nine words", C.command("a b c d e f g h h"), -2);
        C.due("another eighth", C.command("a b c d e f g i"), -2);
        C.due("another first", C.command("b b c d e f g h"), -2);
        C.bad(8, as + "^\"a b c d e f g h i\" as singing.");
        C.bad(8, as + "^\"\" as singing.");
        C.bad(8, as + "^\"   \" as singing.");
        C.good(as + "\"abcdefghijkl the\" as singing.");
        C.due("twelve letters", C.command("ABCDEFGHIJKL THE"), 2);
        C.due("thirteen letters", C.command("abcdefghijklm the"), -2);
        C.bad(8, as + "^\"abcdefghijklm the\" as singing.");
        C.bad(8, as + "^\"the abcdefghijklm\" as singing.");
        C.of("5: or [RUN], once, in place of one");
        String rub = "Instead of taking: stop. Understand ";
        C.good(rub + "\"[thing] a b c d e f g\" as taking. Understand \"a b c d e f g [thing]\" as taking.");
        C.due("first of eight", C.command("player a b c d e f g"), 2);
        C.due("last of eight", C.command("a b c d e f g player"), 2);
        for (String t : new String[] {"a b c d e f g", "a", "g", "", "player", "player a", "player g", "a player", "b c d e f g"}) {
            C.due("command <" + t + ">", C.command(t), -2);
        }
        C.bad(8, rub + "^\"a b c d e f g h [thing]\" as taking.");
        C.bad(8, rub + "^\"[thing] a b c d e f g h\" as taking.");
        C.bad(8, rub + "^\"[thing] [thing]\" as taking.");
        C.of("5: COMMANDS are words (letters, A .. Z as a .. z), with blanks (32) between");
        for (int b = 33; b < 127; b++) {
            boolean letter = Character.isLetter(b);
            if (b != '"' && b != '^') {
                String text = "a" + (char) b + "z";
                if (letter) {
                    C.good(as + "\"" + text + "\" as singing.");
                    C.due("command <" + text + ">", C.command(text.toUpperCase()), 2);
                } else {
                    C.bad(8, as + "^\"" + text + "\" as singing.");
                }
            }
        }
        C.good(as + "\"  a   b \" as singing.");
        String[] typed = {"a b", " a b", "a b ", "   A    B   "};
        for (String t : typed) {
            C.due("command <" + t + ">", C.command(t), 2);
        }
        for (int b = 0; b < 256; b++) {
            boolean letter = b >= 'a' && b <= 'z' || b >= 'A' && b <= 'Z';
            if (b % 4 == 3 && b != 32 && !letter || b == 9 || b == 10 || b == 13 || b == '.' || b == '[' || b == ']') {
                C.due("command with a byte " + b, C.command("a b" + (char) b), -2);
                C.due("command with a byte " + b, C.command("a" + (char) b + "b"), -2);
            }
        }
        C.of("5: A COMMAND (50 words at most)");
        C.due("fifty words", C.command(Checks.times("a ", 50)), -2);
        C.due("fifty-one words", C.command(Checks.times("a ", 51)), -2);
        C.due("many words", C.command(Checks.times("a b ", 200)), -2);
        C.of("5: words of more than twelve letters are none that an object has");
        C.good("The tin is a thing. The tin cans is a thing.");
        for (String t : new String[] {"take tin abcdefghijklm", "take abcdefghijklm tin", "take abcdefghijklm", "abcdefghijklm", "abcdefghijklm wait", "wait abcdefghijklm"}) {
            C.due("command <" + t + ">", C.command(t), -2);
        }
        C.due("take tin cans", C.command("take tin cans"), 0);
        C.due("take tin", C.command("take tin"), 0);
    }

    private static void atGap() {
        C.of("5: with an object's words of that kind (a direction) at [ ]");
        C.good("A box is a kind. The tin is a thing. The big tin is a box. The very big tin is a box. The hall is a room. The put is a thing."
            + " Understand \"put [thing] down\" as taking. Understand \"put [box] up\" as taking. Understand \"put [thing]\" as dropping. Understand \"[thing]\" as examining."
            + " Understand \"run [direction] now\" as going. Before taking: say \"t [noun]\". Before dropping: say \"d [noun]\". Before examining: say \"e [noun]\". Before going: say \"g\".");
        String[] typed = {"put tin down", "put big tin down", "put very big tin down", "put tin up", "put big tin up", "put very big tin up", "put tin", "put put", "put put down",
            "tin", "put", "very big tin", "run north now", "run tin now", "put hall down", "put the tin down", "put very very big tin down", "put down", "put hall", "run now",
            "run north east now", "run now now", "big", "very big", "put big down"};
        String[] due = {"t tin", "t big tin", "t very big tin", "", "t big tin", "t very big tin", "d tin", "d put", "t put", "e tin", "e put", "e very big tin", "g", "", "", "",
            "", "", "", "", "", "", "", "", ""};
        for (int i = 0; i < typed.length; i++) {
            C.x.clear();
            int got = C.command(typed[i]);
            String said = C.said();
            C.due("command <" + typed[i] + "> fits (" + got + ")", got != -2, !due[i].isEmpty());
            C.due("what it says", said.isEmpty() ? "" : said.substring(0, said.indexOf('\n')), due[i]);
        }
        C.of("5: The first told that fits counts");
        String one = "Understand \"x [thing]\" as taking. ";
        String other = "Understand \"x [thing]\" as dropping. ";
        String says = "Instead of taking: say \"t\". Instead of dropping: say \"d\". ";
        C.good(says + one + other);
        C.due("x player", C.command("x player"), 2);
        C.due("said", C.said(), "t\n");
        C.good(says + other + one);
        C.due("x player", C.command("x player"), 2);
        C.due("said", C.said(), "d\n");
        C.good("Understand \"take [person]\" as examining. Understand \"go [direction]\" as going. Understand \"north\" as waiting.");
        C.due("AT FIRST ones are the first", C.command("take player"), 3);
        C.due("AT FIRST ones are the first", C.command("north"), 3);
        C.of("5: for an action of a kind there must be one, of that kind or one below, for one of directions [direction], for others none");
        String world = "A box is a kind of container. Rubbing is an action applying to one container. Singing is an action. Colour is a kind of value. Colour is red. Understand ";
        C.good(world + "\"rub [container]\" as rubbing.");
        C.good(world + "\"rub [box]\" as rubbing.");
        String[] wrong = {"rub [thing]", "rub [supporter]", "rub [boxs]", "rub [direction]", "rub [colour]", "rub [red]", "rub [fixed]", "rub [player]", "rub [north]", "rub [number]", "rub"};
        for (String text : wrong) {
            C.bad(8, world + "^\"" + text + "\" as rubbing.");
        }
        C.good(world + "\"run [direction]\" as going.");
        C.good(world + "\"[Direction]\" as going.");
        String[] wrongWays = {"run [north]", "run [thing]", "run", "run [directions]", "run [direction direction]", "run [up]"};
        for (String text : wrongWays) {
            C.bad(8, world + "^\"" + text + "\" as going.");
        }
        C.good(world + "\"sing\" as singing.");
        C.bad(8, world + "^\"sing [thing]\" as singing.");
        C.bad(8, world + "^\"sing [direction]\" as singing.");
        C.bad(8, world + "\"rub [container]\" as rubbing. Understand ^\"rub\" as rubbing.");
        C.bad(8, world + "\"run [direction]\" as going. Understand ^\"run\" as going.");
        C.good(world + "\"rub [container]\" as rubbing. Understand \"sing\" as singing.");
        C.good("A very big box is a kind. Understand \"grab [very big box]\" as taking. Understand \"grab [VERY  Big box] now\" as taking. The pin is a very big box.");
        C.due("grab pin", C.command("grab pin"), 0);
        C.due("grab pin now", C.command("grab pin now"), 3);
        C.due("grab player", C.command("grab player"), -2);
    }

    private static void texts() {
        C.of("3: 8 a TEXT that is not as part 5 tells (of 1 what [RUN] must be, if the action is one)");
        String world = "A box is a kind. Rubbing is an action applying to one thing. Boxing is an action applying to one box. Singing is an action. Understand ";
        String[] rubbing = {"\"rub\"", "\"rub [things]\"", "\"rub [room]\"", "\"rub [frob]\"", "\"rub [direction]\"", "\"\"", "\" \"", "\"rub [thing] [thing]\"",
            "\"rub [thing] 5\"", "\"rub. [thing]\"", "\"rub [thing\"", "\"rub thing]\"", "\"rub []\"", "\"rub [the thing]\"", "\"rub [thing, box]\"",
            "\"abcdefghijklm [thing]\"", "\"a b c d e f g h [thing]\"", "\"[abcdefghijklm]\"", "\"rub [thing thing thing thing]\"", "\"rub-a [thing]\""};
        for (String text : rubbing) {
            C.bad(8, world + "^" + text + " as rubbing.");
        }
        C.good(world + "\"rub [box]\" as rubbing.");
        C.good(world + "\" a b c d e f g  [thing] \" as rubbing.");
        C.good(world + "\"abcdefghijkl [thing]\" as rubbing.");
        C.bad(8, world + "^\"box [thing]\" as boxing.");
        C.bad(8, world + "^\"sing [thing]\" as singing.");
        C.bad(8, world + "^\"run\" as going.");
        C.bad(8, world + "^\"run [thing]\" as going.");
        C.good(world + "\"run [direction]\" as going.");
        C.bad(8, world + "^\"5\" as frob.");
        C.bad(8, world + "^\"\" as frob.");
        C.bad(8, world + "^\" \" as singing.");
        C.bad(8, world + "^\"x []\" as frob.");
        C.bad(8, world + "^\"x [abcdefghijklm]\" as frob.");
        C.bad(8, world + "^\"x [the box]\" as frob.");
        C.good("Abcdefghijkl is a kind. Understand \"x [abcdefghijkl]\" as taking.");
        C.bad(8, world + "^\"[thing] [thing]\" as frob.");
        C.bad(4, world + "\"rub [frob]\" as ^frob.");
        C.bad(4, world + "\"rub\" as ^box.");
    }
}
