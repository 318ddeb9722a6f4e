/** Promise 17: COMMANDS, and fault 8 of what they mean. */
public final class CommandsTest {
    private static final Checks C = new Checks();

    public static void main(String[] args) {
        first();
        told();
        texts();
        C.end("CommandsTest");
    }

    private static void first() {
        C.good("The hall is a room. The yard is north of the hall. The old tin is a thing in the hall. \"Tin.\" The rock is a fixed thing.");
        C.due("wait", C.command("wait"), 0);
        C.due("Take OLD tin", C.command("Take OLD tin"), 0);
        C.place(3, 4, 0);
        C.due("get old tin", C.command("get   old tin "), 3);
        C.due("take rock", C.command("take rock"), 3);
        C.due("drop old tin", C.command(" drop old tin"), 0);
        C.due("examine old tin", C.command("examine old tin"), 0);
        C.due("what it says", C.said(), "Tin.\n");
        C.due("go north", C.command("go north"), 0);
        C.place(0, 1, 2);
        C.due("south", C.command("SOUTH"), 0);
        C.place(0, 1, 1);
        C.due("down", C.command("down"), 3);
        String[] none = {"", " ", "wait wait", "take", "take tin", "take the old tin", "take old tin now", "take hall", "take north", "go", "go hall", "hall",
            "north north", "wait.", "wait\n", "wa1t", "take\told tin", "go north\u0000", "waitwaitwaitwait"};
        for (String typed : none) {
            C.due("command <" + typed + ">", C.command(typed), -2);
        }
        C.due("tape behind it", C.x.wipe(), 0);
        C.due("fifty words", C.command(Checks.times("wait ", 50)), -2);
        C.due("fifty-one words", C.command(Checks.times("wait ", 51)), -2);
        C.due("a long word", C.command("take " + Checks.times("x", 300)), -2);
    }

    private static void told() {
        C.good("A box is a kind. The bag is a box. The tin is a thing. Rubbing is an action applying to one thing. Singing is an action. The hall is a room."
            + " Understand \"Rub [box] now\" as rubbing. Understand \"rub [thing] now\" as rubbing. Understand \"[ BOX ]\" as rubbing."
            + " Understand \"wait\" as singing. Understand \"sing a song of the day or so\" as singing. Understand \"hum\" as waiting."
            + " Understand \"walk [direction] on\" as going. Instead of rubbing: say \"[noun]\". Instead of singing: say \"la\". After waiting: say \"w\".");
        C.due("COMMANDS", C.x.told(10), 14);
        C.due("rub bag now", C.command("rub bag now"), 2);
        C.due("said", C.said(), "bag\n");
        C.due("rub tin now", C.command("rub tin now"), 2);
        C.due("said", C.said(), "tin\n");
        C.due("bag", C.command("bag"), 2);
        C.due("tin", C.command("tin"), -2);
        C.due("rub hall now", C.command("rub hall now"), -2);
        C.due("rub now", C.command("rub now"), -2);
        C.x.clear();
        C.due("the first told counts", C.command("wait"), 0);
        C.due("said", C.said(), "w\n");
        C.due("sing", C.command("sing a song of the day or so"), 2);
        C.due("hum", C.command("hum"), 0);
        C.due("walk", C.command("walk up on"), 3);
        C.due("walk", C.command("walk bag on"), -2);
        C.good("The abcdefghijkl is a thing. Understand \"grabgrabgrab [thing]\" as taking. Instead of taking: stop.");
        C.due("twelve letters", C.command("grabgrabgrab abcdefghijkl"), 2);
        C.due("thirteen letters", C.command("grabgrabgrabb abcdefghijkl"), -2);
        C.due("thirteen letters", C.command("grabgrabgrab abcdefghijklm"), -2);
        // The player is of a kind below thing; a [ ] of a kind takes what is of that kind by now.
        C.good("The bag is a thing. Rubbing is an action applying to one container. Understand \"rub [container]\" as rubbing. The bag is a container.");
        C.due("rub bag", C.command("rub bag"), 0);
        C.due("rub player", C.command("rub player"), -2);
    }

    private static void texts() {
        String world = "A box is a kind. Rubbing is an action applying to one thing. Boxing is an action applying to one box. Singing is an action. Understand ";
        String[] rubbing = {"\"rub\"", "\"rub [things]\"", "\"rub [room]\"", "\"rub [frob]\"", "\"rub [direction]\"", "\"\"", "\" \"", "\"rub [thing] [thing]\"",
            "\"rub [thing] 5\"", "\"rub. [thing]\"", "\"rub [thing\"", "\"rub thing]\"", "\"rub []\"", "\"rub [the thing]\"", "\"rub [thing, box]\"", "\"rub[thing]\"",
            "\"[thing]rub\"", "\"abcdefghijklm [thing]\"", "\"a b c d e f g h [thing]\"", "\"[abcdefghijklm]\"", "\"rub [thing thing thing thing]\"", "\"rub-a [thing]\""};
        for (String text : rubbing) {
            C.bad(8, world + "^" + text + " as rubbing.");
        }
        C.good(world + "\"rub [box]\" as rubbing.");
        C.good(world + "\" a b c d e f g  [thing] \" as rubbing.");
        C.good(world + "\"abcdefghijkl [thing]\" as rubbing.");
        C.bad(8, world + "^\"box [thing]\" as boxing.");
        C.bad(8, world + "^\"sing [thing]\" as singing.");
        C.bad(8, world + "^\"run\" as going.");
        C.bad(8, world + "^\"run [thing]\" as going.");
        C.good(world + "\"run [direction]\" as going.");
        C.bad(8, world + "^\"5\" as frob.");
        C.bad(8, world + "^\"\" as frob.");
        C.bad(8, world + "^\" \" as singing.");
        C.bad(8, world + "^\"x []\" as frob.");
        C.bad(8, world + "^\"x [abcdefghijklm]\" as frob.");
        C.bad(8, world + "^\"x [the box]\" as frob.");
        C.good("Abcdefghijkl is a kind. Understand \"x [abcdefghijkl]\" as taking.");
        C.bad(8, world + "^\"[thing] [thing]\" as frob.");
        C.bad(4, world + "\"rub [frob]\" as ^frob.");
        C.bad(4, world + "\"rub\" as ^box.");
    }
}
