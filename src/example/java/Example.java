/** A small world: it is told, looked at, and goes on by an act and by a command. */
public final class Example {
    public static void main(String[] args) {
        RuleSentences x = new RuleSentences();
        feed(x, "The hall is a room. The garden is north of the hall. "
            + "The lamp is a thing in the hall. \"An old lamp.\" "
            + "After taking the lamp: say \"The [noun] is warm.\".");
        int answer = x.read();
        if (x.fault() != 0) {
            System.out.println("fault " + x.fault() + " at byte " + (-10 - answer));
            return;
        }
        System.out.println(answer + " sentences, " + x.told(2) + " objects");
        for (int i = 0; i < x.told(2); i++) {
            System.out.println(i + " " + name(x, 2, i) + ", how placed: " + x.object(i, 1) + ", where: " + x.object(i, 2));
        }
        System.out.println("taking (1) the lamp (3): " + x.act(1, 3));
        feed(x, "examine lamp");
        System.out.println("examine lamp: " + x.command());
        feed(x, "go south");
        System.out.println("go south: " + x.command());
        System.out.print(written(x));
    }

    /** Up to eight bytes go with one call, the first of them as the highest. */
    private static void feed(RuleSentences x, String text) {
        for (int at = 0; at < text.length(); at += 8) {
            int n = Math.min(8, text.length() - at);
            long w = 0;
            for (int i = 0; i < n; i++) {
                w = w << 8 | text.charAt(at + i);
            }
            x.feed(w, n);
        }
    }

    private static String name(RuleSentences x, int what, int i) {
        StringBuilder s = new StringBuilder();
        for (int b = x.name(what, i, 0); b != RuleSentences.NONE; b = x.name(what, i, s.length())) {
            s.append((char) b);
        }
        return s.toString();
    }

    private static String written(RuleSentences x) {
        StringBuilder s = new StringBuilder();
        for (int i = 0; i < x.outs(); i++) {
            s.append((char) x.out(i));
        }
        x.clear();
        return s.toString();
    }
}
