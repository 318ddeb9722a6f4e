import java.util.Random;

/** No call ever throws, or fails to end, for any arguments in any state; the same calls give the same answers. */
public final class RobustTest {
    private static final Checks C = new Checks();
    private static final String[] TOKENS = ("the a an some is are not of in on by to has can be or and called kind plural value relates one various means verb"
        + " relation action applying part carried worn usually understand as definition if when before instead after every turn say now move increase"
        + " decrease stop try than less more noun it thing things room container x y z xs lamp number text . . . . , ; : \"x\" \"[noun]\" 5 taking waiting"
        + " north fixed player description [r] [ ] \" $").split(" ");
    private static final String[] SENTENCES = {"X is a kind. ", "X can be y or z. ", "The lamp is a x. ", "The hall is a room. ", "Every turn: try waiting. ",
        "Instead of waiting: say \"[player]\"; try waiting; try waiting. ", "A thing has a number called weight. ", "The lamp is in the hall. ",
        "Before taking a x when the noun is z: increase the weight of noun by 5; move noun to the hall. ", "Understand \"rub [x]\" as taking. "};

    public static void main(String[] args) {
        long sum = 0;
        for (int seed = 0; seed < 3000; seed++) {
            long once = run(seed);
            sum += once;
            if (seed % 10 == 0) {
                C.due("run " + seed + " again", run(seed), once);
            }
        }
        fullTapes();
        C.due("runs have answered", sum != 0, true);
        C.end("RobustTest");
    }

    private static int number(Random r) {
        int[] edges = {-2, -1, Integer.MAX_VALUE, Integer.MIN_VALUE, r.nextInt()};
        return r.nextInt(3) == 0 ? edges[r.nextInt(edges.length)] : r.nextInt(30);
    }

    private static long run(int seed) {
        Random r = new Random(seed);
        C.fresh();
        long sum = 0;
        // A text has some 700 bytes at most: a hundred calls.
        for (int i = 0; i < 60 && C.x.calls() < Checks.Counted.CALLS_MOST - 110; i++) {
            int what = r.nextInt(22);
            if (what > 18) {
                C.feed(text(r));
            }
            sum = sum * 31 + (what > 18 ? C.x.read() : call(what, r));
        }
        return sum;
    }

    private static String text(Random r) {
        StringBuilder s = new StringBuilder();
        for (int i = r.nextInt(10); i > 0; i--) {
            s.append(SENTENCES[r.nextInt(SENTENCES.length)]);
        }
        for (int i = r.nextInt(12); i > 0; i--) {
            s.append(TOKENS[r.nextInt(TOKENS.length)]).append(r.nextInt(5) > 0 ? " " : "");
        }
        return s.toString();
    }

    private static long call(int what, Random r) {
        switch (what) {
            case 0: return C.x.feed(r.nextLong(), number(r));
            case 1: return C.x.wipe();
            case 2: return C.x.read();
            case 3: return C.x.fault();
            case 4: return C.x.told(number(r));
            case 5: return C.x.name(number(r), number(r), number(r));
            case 6: return C.x.kind(number(r), number(r));
            case 7: return C.x.object(number(r), number(r));
            case 8: return C.x.is(number(r), number(r));
            case 9: return C.x.property(number(r), number(r));
            case 10: return C.x.letter(number(r), number(r), number(r));
            case 11: return C.x.leads(number(r), number(r));
            case 12: return C.x.related(number(r), number(r), number(r)) ? 1 : 0;
            case 13: return C.x.rule(number(r), number(r));
            case 14: return C.x.act(number(r), number(r));
            case 15: return C.x.command();
            case 16: return C.x.outs();
            case 17: return C.x.out(number(r));
            default: return C.x.clear();
        }
    }

    private static void fullTapes() {
        String[] fills = {",", "a ", "x ", "x,", "x and ", "\"\"", "\"\".", "[", "]", "[]", "x is a y.", "is ", "1 ", ";", ":", "the x of ",
            "before x when x and ", "every turn: say \"[player]\"; ", "x is a kind of y and ", "likes ", "x likes, ", "\u00ff", "\u0000"};
        String start = "The x is a thing. Q relates various things to various things. The verb to like means the q relation. ";
        for (String fill : fills) {
            for (int k = 0; k < 2; k++) {
                C.fresh();
                String tape = (k == 0 ? "" : start) + Checks.times(fill, 5000);
                C.x.mayGoBeyond();
                C.feed(tape.substring(0, 4999) + ".");
                int got = C.x.read();
                C.due("a full tape of <" + fill + "> is read", got > 0 || got <= -10 && got >= -5010, true);
                C.due("the TAPE behind it", C.x.wipe(), 0);
            }
        }
    }
}
