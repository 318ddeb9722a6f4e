/** What the tests share: an object under test, ways to feed it, and a count of wrong answers. */
final class Checks {
    RuleSentences x = new RuleSentences();
    private int asked = 0;
    private int wrong = 0;

    void due(String call, long got, long want) {
        asked++;
        if (got != want) {
            wrong++;
            System.out.println(call + " answered " + got + ", due is " + want);
        }
    }

    void due(String call, String got, String want) {
        asked++;
        if (!got.equals(want)) {
            wrong++;
            System.out.println(call + " answered \"" + got + "\", due is \"" + want + "\"");
        }
    }

    void due(String call, boolean got, boolean want) {
        due(call, got ? 1 : 0, want ? 1 : 0);
    }

    void feed(String text) {
        for (int i = 0; i < text.length(); i++) {
            x.feed(text.charAt(i), 1);
        }
    }

    /** A story of so many sentences, without a fault. */
    void good(String story, int sentences) {
        x.wipe();
        feed(story);
        due("read() of <" + story + ">", x.read(), sentences);
        due("fault() of <" + story + ">", x.fault(), 0);
    }

    /** A story without a fault, of which the number of sentences is not asked. */
    void good(String story) {
        x.wipe();
        feed(story);
        int got = x.read();
        due("read() of <" + story + "> (" + got + ") is no fault", got > 0, true);
    }

    /** A story with a fault at the ^ in it (which is not fed). */
    void bad(int fault, String story) {
        int place = story.indexOf('^');
        x.wipe();
        feed(story.substring(0, place) + story.substring(place + 1));
        due("read() of <" + story + ">", x.read(), -10 - place);
        due("fault() of <" + story + ">", x.fault(), fault);
        due("told(2) behind a fault", x.told(2), 1);
    }

    int command(String typed) {
        x.wipe();
        feed(typed);
        return x.command();
    }

    String name(int what, int i) {
        StringBuilder s = new StringBuilder();
        for (int k = 0; x.name(what, i, k) != RuleSentences.NONE; k++) {
            s.append((char) x.name(what, i, k));
        }
        return s.toString();
    }

    String text(int object, int property) {
        StringBuilder s = new StringBuilder();
        for (int k = 0; x.letter(object, property, k) != RuleSentences.NONE; k++) {
            s.append((char) x.letter(object, property, k));
        }
        return s.toString();
    }

    /** All of OUT, which is empty then. */
    String said() {
        StringBuilder s = new StringBuilder();
        for (int i = 0; i < x.outs(); i++) {
            s.append((char) x.out(i));
        }
        x.clear();
        return s.toString();
    }

    /** An act with what it answers and writes. */
    void act(int action, int noun, int want, String said) {
        x.clear();
        String call = "act(" + action + ", " + noun + ")";
        due(call, x.act(action, noun), want);
        due("what " + call + " says", said(), said);
    }

    void place(int object, int how, int where) {
        due("object(" + object + ", 1)", x.object(object, 1), how);
        due("object(" + object + ", 2)", x.object(object, 2), where);
    }

    static String times(String text, int n) {
        StringBuilder s = new StringBuilder();
        for (int i = 0; i < n; i++) {
            s.append(text);
        }
        return s.toString();
    }

    /** A word of its own for each number. */
    static String word(int i) {
        return "w" + (char) ('a' + i / 26) + (char) ('a' + i % 26);
    }

    /** Names with a , between: word(from) up to, not with, word(to). */
    static String words(int from, int to) {
        StringBuilder s = new StringBuilder();
        for (int i = from; i < to; i++) {
            s.append(i > from ? ", " : "").append(word(i));
        }
        return s.toString();
    }

    void end(String test) {
        System.out.println(test + ": " + asked + " answers asked, " + wrong + " wrong");
        if (wrong != 0) {
            System.exit(1);
        }
    }
}
