/** Promise 4: read() makes a new world: what it answers then is what a new object answers that reads the same. */
public final class AgainTest {
    private static final Checks C = new Checks();
    private static final int NONE = RuleSentences.NONE;
    private static final String FIRST = "The plural of thing is very many things. The plural of people is so very many. The hall is a room. \"Hall.\" The yard is north of the hall."
        + " The den is west of yard. A very old box is a kind of container. A box is a kind. A very old box has a number called depth. A man is a kind of person. Colour is a kind of value. Mood is a kind of value."
        + " Colours are red, green, blue. Mood is sad. A thing can be old or new. A room can be lit or dark. A room has a colour called paint. A container has a number called size. A box has a number called depth."
        + " A thing has a mood called mind. A thing is usually fixed. A thing is usually old. The paint of room is blue. The size of container is 7. The description of thing is \"Thing.\""
        + ". The tin is a portable container in the hall. The pot is a fixed new container in the tin. The lid is part of the pot. The player is in the yard."
        + " Liking relates one thing to one thing. Owning relates one room to one room. The verb to like means the owning relation. The verb to own means the liking relation."
        + " The hall likes the yard. The tin owns the pot. The pot owns the tin. Definition: a thing is odd if it is not fixed and the size of pot is not 8 and tin is not new."
        + " Rubbing is an action. Turning is an action applying to one room. Understand \"x [room] y\" as turning. Understand \"rub a b c d e f g\" as rubbing."
        + " Before waiting when the tin is not new and pot is not in hall: say \"[tin][the size of pot][lid]\"; now the lid is not fixed; stop."
        + " Every turn: say \"every [pot]\"; stop. Instead of taking an old fixed thing when noun is not odd: say \"no\".";
    private static final String[] SECOND = {
        "The hall is a room.",
        "Anna, Bert, Carl, Dora, Emma, Fred, Gina and Hans are people. The hall is a room.",
        "The cave is a room. The pit is a room. The well is a room. The tub is a container. The lid is a container. The cup is a thing. Liking relates various things to various things.",
        "Void is a kind of value. A thing has a void called mind. A thing has a number called size. A thing has a text called label. The cup is a thing. The hat is a thing.",
        "A bin is a kind of room. A cat is a kind. Thing can be big or tiny. Person can be hot or cold. The cup is a cat. Owning relates various things to various things.",
        "Liking relates various things to various things. The verb to like means the liking relation. The cup is a thing. The hat is a thing."
            + " Before waiting when cup likes hat: say \"likes\". Before waiting when player is portable: say \"[hat]\"; now hat likes cup; now cup is fixed. After waiting: say \"\".",
        "Definition: a thing is even if it is fixed. Definition: a thing is odd if it is portable. The cup is a fixed thing."
            + " Instead of waiting when the cup is even and cup is not odd: say \"[the cup]\"; say \"[cup][player]\"."};

    public static void main(String[] args) {
        C.of("4: the STORY of a new world");
        C.good(FIRST);
        for (String story : SECOND) {
            asNew(FIRST, story);
            for (String first : SECOND) {
                asNew(first, story);
            }
        }
        asNew("The hall is a frob.", SECOND[0]);
        fullAgain();
        manyClauses();
        staleTape();
        C.end("AgainTest");
    }

    private static void asNew(String first, String story) {
        C.fresh();
        C.feed(story);
        int due = C.x.read();
        String dump = dump();
        String acts = acts();
        C.due("<" + story + "> has no fault", due > 0, true);
        C.fresh();
        readAhead(first);
        C.feed(story);
        C.due("read() of <" + story + ">", C.x.read(), due);
        C.due("fault() of <" + story + ">", C.x.fault(), 0);
        C.due("the world of <" + story + "> behind <" + first + ">", dump(), dump);
        C.fresh();
        readAhead(first);
        C.feed(story);
        C.x.read();
        C.due("the acts of <" + story + "> behind <" + first + ">", acts(), acts);
    }

    /** The first world goes on for some turns, so that acts have changed it, too. */
    private static void readAhead(String first) {
        C.feed(first);
        C.x.read();
        C.x.act(0, NONE);
        C.x.act(4, 1);
        C.x.act(1, 4);
    }

    private static String dump() {
        StringBuilder s = new StringBuilder();
        for (int i = 0; i < 11; i++) {
            s.append(C.x.told(i)).append(' ');
        }
        for (int i = 0; i < 8; i++) {
            s.append("; ").append(C.x.kind(i, 0)).append(' ').append(C.x.kind(i, 1)).append(' ').append(C.x.kind(i, 2)).append(' ').append(C.x.name(11, i, 5));
        }
        for (int i = 0; i < 7; i++) {
            s.append("; ").append(C.x.object(i, 0)).append(' ').append(C.x.object(i, 1)).append(' ').append(C.x.object(i, 2));
            for (int a = 0; a < 6; a++) {
                s.append(' ').append(C.x.is(i, a));
            }
            for (int p = 0; p < 4; p++) {
                s.append(' ').append(C.x.property(i, p));
            }
            for (int d = 0; d < 4; d++) {
                s.append(' ').append(C.x.leads(i, d));
            }
            for (int k = 0; k < 7; k++) {
                s.append(C.x.related(0, i, k) ? '+' : '-');
            }
        }
        return s.toString();
    }

    private static String acts() {
        StringBuilder s = new StringBuilder();
        for (int i = 0; i < 4; i++) {
            for (int what = 0; what < 8; what++) {
                s.append(C.x.rule(i, what)).append(' ');
            }
        }
        s.append(C.x.act(0, NONE)).append(C.x.act(0, NONE)).append(C.x.act(1, 1)).append(C.x.act(3, 2)).append(C.x.act(4, 1)).append(C.x.act(5, NONE)).append(C.x.act(6, 1));
        s.append(C.said());
        for (String typed : new String[] {"wait", "x hall y", "rub a b c d e f g", "take tin", "hat", "take cup", "north"}) {
            s.append(C.command(typed)).append(' ');
        }
        s.append(C.said());
        for (int i = 0; i < 7; i++) {
            s.append("; ").append(C.x.object(i, 1)).append(' ').append(C.x.object(i, 2)).append(' ').append(C.x.is(i, 0)).append(' ').append(C.x.is(i, 3));
        }
        return s.toString();
    }

    /** What there may be at most, there may be again. */
    private static void fullAgain() {
        C.of("4: the STORY of a new world: what was told of the old one does not count");
        String[] full = {Checks.words(0, 11) + " are a kind.", Checks.words(0, 6) + " are a kind of value.", Checks.words(0, 23) + " are a thing.",
            "Colour is a kind of value. Colour is " + Checks.words(0, 8) + ".", Checks.words(0, 7) + " are an action.", Checks.times("Understand \"x\" as waiting. ", 13),
            Checks.times("Every turn: stop. ", 24)};
        for (String story : full) {
            C.fresh();
            C.feed(story);
            int due = C.x.read();
            for (int i = 0; i < 3; i++) {
                C.again(story, due);
            }
        }
    }

    /** TESTS and PHRASES of old worlds take no room of new ones: as many as 512 calls can tell. */
    private static void manyClauses() {
        String rule = "Every turn:" + Checks.times("stop;", 7) + "stop.";
        C.fresh();
        for (int i = 0; i < 3; i++) {
            C.feed(Checks.times(rule, 24));
            C.due("read() of 24 full rules", C.x.read(), 24);
        }
        C.feed(Checks.times(rule, 3) + "Every turn:say\"a\";say\"b\".");
        C.due("read() behind them", C.x.read(), 4);
        C.act(0, NONE, 0, "a\nb\n");
    }

    /** What stood on the TAPE is no part of a shorter one. */
    private static void staleTape() {
        C.of("4, 17: The TAPE is the STORY, a COMMAND: it ends where it ends");
        String[] stories = {"The hall^", "The hall is a room^", "The hall is a room. ^\"x", "The hall is a room. ^[x", "The weight of the player is 12^"};
        String[] fills = {"xxxxxxxx", "........", "\"\"\"\"\"\"\"\"", "]]]]]]]]", "99999999"};
        int[] faults = {2, 2, 1, 1, 2};
        for (String fill : fills) {
            for (int i = 0; i < stories.length; i++) {
                C.fresh();
                for (int k = 0; k < 3; k++) {
                    C.feed(Checks.times(fill, 10));
                    C.x.wipe();
                    C.feed(Checks.times(fill, 10));
                    C.x.read();
                    C.feed(Checks.times(fill, 10));
                    C.x.command();
                    C.badAgain(faults[i], stories[i]);
                }
            }
        }
        C.fresh();
        for (String typed : new String[] {"waiting", "wait", "waits", "wait wait", "wait"}) {
            C.due("command <" + typed + ">", C.command(typed), typed.equals("wait") ? 0 : -2);
        }
        C.due("examine player", C.command("examine player"), 0);
        C.due("examine", C.command("examine"), -2);
        C.due("examine playe", C.command("examine playe"), -2);
    }
}
