/** Promises 1 to 7 and 18 to 20: the tape, a new object, reading, counts and names, OUT. */
public final class FaceTest {
    private static final Checks C = new Checks();
    private static final int NONE = RuleSentences.NONE;

    public static void main(String[] args) {
        newObject();
        feeding();
        reading();
        names();
        output();
        C.end("FaceTest");
    }

    private static void newObject() {
        C.x = new RuleSentences();
        int[] counts = {5, 2, 1, 2, 0, 1, 0, 0, 5, 0, 7};
        for (int i = 0; i < counts.length; i++) {
            C.due("told(" + i + ")", C.x.told(i), counts[i]);
        }
        C.due("told(-1)", C.x.told(-1), NONE);
        C.due("told(11)", C.x.told(11), NONE);
        C.due("fault()", C.x.fault(), 0);
        C.due("outs()", C.x.outs(), 0);
        C.due("wipe()", C.x.wipe(), 0);
        C.place(0, 0, NONE);
        C.due("act(0, -1)", C.x.act(0, NONE), 0);
        C.due("is(0, 2)", C.x.is(0, 2), NONE);
        C.due("property(0, 1)", C.x.property(0, 1), NONE);
    }

    private static void feeding() {
        C.x = new RuleSentences();
        C.due("feed(.., 8)", C.x.feed(0x4142434445464748L, 8), 8);
        C.due("feed(.., 0)", C.x.feed(1, 0), NONE);
        C.due("feed(.., 9)", C.x.feed(1, 9), NONE);
        C.due("feed(.., -1)", C.x.feed(1, -1), NONE);
        C.due("wipe()", C.x.wipe(), 8);
        C.due("wipe() again", C.x.wipe(), 0);
        for (int i = 1; i <= 624; i++) {
            C.x.feed(0x2020202020202020L, 8);
        }
        C.due("feed() up to 4999", C.x.feed(0x20202020202020L, 7), 4999);
        C.due("feed() beyond 5000", C.x.feed(0x2020, 2), NONE);
        C.due("feed() up to 5000", C.x.feed(0x20, 1), 5000);
        C.due("feed() beyond 5000", C.x.feed(0x20, 1), NONE);
        C.due("read() of blanks", C.x.read(), -5010);
        C.due("wipe() behind read()", C.x.wipe(), 0);
        // The n lowest bytes, the highest of them first: "wait" ahead of what does not count.
        C.due("feed(\"xxxxwait\", 4)", C.x.feed(0x7878787877616974L, 4), 4);
        C.due("command() of wait", C.x.command(), 0);
        C.due("wipe() behind command()", C.x.wipe(), 0);
    }

    private static void reading() {
        C.x = new RuleSentences();
        C.good("The hall is a room. \"Wide.\" \"Wide.\". The yard is a room.", 4);
        C.due("told(2)", C.x.told(2), 3);
        C.good("[only] The den is a room. [that]", 1);
        C.due("told(2) of a new world", C.x.told(2), 2);
        C.due("name of it", C.name(2, 1), "den");
        C.x.act(3, 0);
        C.due("outs()", C.x.outs(), 1);
        C.feed("The hall is");
        C.due("read() with a fault", C.x.read(), -21);
        C.due("fault()", C.x.fault(), 2);
        C.due("outs() behind read()", C.x.outs(), 0);
        C.due("wipe() behind a fault", C.x.wipe(), 0);
        C.due("told(2) behind a fault", C.x.told(2), 1);
        C.due("told(10) behind a fault", C.x.told(10), 7);
        C.place(0, 0, NONE);
        C.good("A box is a kind.", 1);
        // Texts stay as they were read, whatever is fed behind that.
        C.good("The hall is a room. \"Wide.\"", 2);
        C.feed(Checks.times("zzzzzzzz", 20));
        C.due("a text behind feed()", C.text(1, 0), "Wide.");
    }

    private static void names() {
        C.x = new RuleSentences();
        C.due("kind 4", C.name(0, 4), "person");
        C.due("plural 4", C.name(11, 4), "people");
        C.due("type 1", C.name(1, 1), "text");
        C.due("object 0", C.name(2, 0), "player");
        C.due("adjective 1", C.name(3, 1), "portable");
        C.due("property 0", C.name(5, 0), "description");
        C.due("action 4", C.name(8, 4), "going");
        C.good("The Big RED box is a thing. Old abcdefghijkl is a kind. Colour is a kind of value. Mood is a kind of value."
            + " Colours are red. Moods are very sad and so. Colour is blue. Liking relates one thing to one thing."
            + " The verb to like means the liking relation. A thing has a colour called tint. Box and boxs are a kind.");
        C.due("object 1", C.name(2, 1), "big red box");
        C.due("kind 5", C.name(0, 5), "old abcdefghijkl");
        C.due("plural 5", C.name(11, 5), "old abcdefghijkls");
        C.due("plural 6, which is kind 7", C.name(11, 6), "");
        C.due("plural 7", C.name(11, 7), "boxss");
        C.due("values", C.x.told(4), 4);
        C.due("value 1", C.name(4, 1), "very sad");
        C.due("value 3", C.name(4, 3), "blue");
        C.due("relation 0", C.name(6, 0), "liking");
        C.due("verb 0", C.name(7, 0), "like");
        C.due("property 1", C.name(5, 1), "tint");
        C.good("The plural of thing is very many things. The plural of thing is many.");
        C.due("plural 0", C.name(11, 0), "many");
        C.good("The plural of thing is very many things.");
        C.due("plural 0", C.name(11, 0), "very many things");
        C.good("The hall is a room.");
        C.due("plural 0 of a new world", C.name(11, 0), "things");
        C.good("The aa ab, b, zz zzzzzzzzzzzz and az are a thing.");
        C.due("object 1", C.name(2, 1), "aa ab");
        C.due("object 2", C.name(2, 2), "b");
        C.due("object 3", C.name(2, 3), "zz zzzzzzzzzzzz");
        C.due("object 4", C.name(2, 4), "az");
        C.good("Old abcdefghijkl is a kind. The big red box is a thing. Box and bin are a kind.");
        int[][] none = {{-1, 0, 0}, {9, 0, 0}, {10, 0, 0}, {12, 0, 0}, {13, 0, 0}, {14, 0, 0}, {0, -1, 0}, {0, 8, 0},
            {0, 0, -1}, {0, 0, 5}, {11, 8, 0}, {11, -1, 0}, {2, 1, 11}, {2, 2, 0}};
        for (int[] n : none) {
            C.due("name(" + n[0] + ", " + n[1] + ", " + n[2] + ")", C.x.name(n[0], n[1], n[2]), NONE);
        }
    }

    private static void output() {
        C.x = new RuleSentences();
        C.good("The lamp is a thing. \"Dull.\"");
        C.x.act(3, 1);
        C.due("outs()", C.x.outs(), 6);
        C.due("out(0)", C.x.out(0), 'D');
        C.due("out(5)", C.x.out(5), 10);
        C.due("out(6)", C.x.out(6), NONE);
        C.due("out(-1)", C.x.out(-1), NONE);
        C.due("clear()", C.x.clear(), 6);
        C.due("clear() again", C.x.clear(), 0);
        C.due("outs()", C.x.outs(), 0);
        C.good("The lamp is a thing. \"" + Checks.times("d", 120) + "\"");
        for (int i = 0; i < 17; i++) {
            C.x.act(3, 1);
        }
        C.due("outs() when full", C.x.outs(), 2000);
        C.due("out(1999)", C.x.out(1999), 'd');
        C.due("out(2000)", C.x.out(2000), NONE);
    }
}
