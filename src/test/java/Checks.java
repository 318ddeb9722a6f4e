/** What the tests share: an object under test, ways to feed it, and a count of wrong answers. */
final class Checks {
    Counted x = new Counted();
    private int asked = 0;
    private int wrong = 0;
    /** What the document says that is tested just now, and how many answers were asked ahead of that. */
    private String sentence = "";
    private int askedAhead = -1;

    /** What is asked from now on would be wrong, if the document did not say this. */
    void of(String theSentence) {
        if (asked == askedAhead) {
            wrong++;
            System.out.println("nothing was asked of: " + sentence);
        }
        sentence = theSentence;
        askedAhead = asked;
    }

    void due(String call, long got, long want) {
        due(call, Long.toString(got), Long.toString(want));
    }

    void due(String call, String got, String want) {
        asked++;
        if (!got.equals(want)) {
            wrong++;
            System.out.println((sentence.isEmpty() ? "" : "[" + sentence + "] ") + call + " answered " + got + ", due is " + want);
        }
    }

    void due(String call, boolean got, boolean want) {
        due(call, got ? 1 : 0, want ? 1 : 0);
    }

    void fresh() {
        x = new Counted();
    }

    /** Up to eight bytes a call. */
    void feed(String text) {
        int at = 0;
        while (at < text.length()) {
            int n = Math.min(8, text.length() - at);
            long w = 0;
            for (int i = 0; i < n; i++) {
                w = w << 8 | text.charAt(at + i) & 255;
            }
            x.feed(w, n);
            at += n;
        }
    }

    /** A story of so many sentences, without a fault, that a new object reads. */
    void good(String story, int sentences) {
        fresh();
        again(story, sentences);
    }

    /** The same, that the object reads that there is. */
    void again(String story, int sentences) {
        x.wipe();
        feed(story);
        due("read() of <" + story + ">", x.read(), sentences);
        due("fault() of <" + story + ">", x.fault(), 0);
    }

    /** A story without a fault, of which the number of sentences is not asked. */
    void good(String story) {
        fresh();
        feed(story);
        int got = x.read();
        due("read() of <" + story + "> (" + got + ") is no fault", got > 0, true);
    }

    /** A story with a fault at the ^ in it (which is not fed), that a new object reads. */
    void bad(int fault, String story) {
        fresh();
        badAgain(fault, story);
    }

    /** The same, that the object reads that there is. */
    void badAgain(int fault, String story) {
        int place = story.indexOf('^');
        askBad(fault, story.substring(0, place) + story.substring(place + 1), place);
    }

    /** A story with a fault at a place, that a new object reads. */
    void badAt(int fault, String story, int place) {
        fresh();
        askBad(fault, story, place);
    }

    /** A story with a fault of which the place is not asked. */
    void faulty(int fault, String story) {
        fresh();
        feed(story);
        due("read() of <" + story + "> is a fault", x.read() <= -10, true);
        due("fault() of <" + story + ">", x.fault(), fault);
    }

    private void askBad(int fault, String story, int place) {
        x.wipe();
        feed(story);
        due("read() of <" + story + ">", x.read(), -10 - place);
        due("fault() of <" + story + ">", x.fault(), fault);
        due("told(2) behind a fault", x.told(2), 1);
    }

    int command(String typed) {
        x.wipe();
        feed(typed);
        return x.command();
    }

    String name(int what, int i) {
        StringBuilder s = new StringBuilder();
        for (int c = x.name(what, i, 0); c != RuleSentences.NONE; c = x.name(what, i, s.length())) {
            s.append((char) c);
        }
        return s.toString();
    }

    String text(int object, int property) {
        StringBuilder s = new StringBuilder();
        for (int c = x.letter(object, property, 0); c != RuleSentences.NONE; c = x.letter(object, property, s.length())) {
            s.append((char) c);
        }
        return s.toString();
    }

    /** All of OUT, which is empty then. */
    String said() {
        StringBuilder s = new StringBuilder();
        int n = x.outs();
        for (int i = 0; i < n; i++) {
            s.append((char) x.out(i));
        }
        x.clear();
        return s.toString();
    }

    /** An act with what it answers and writes. */
    void act(int action, int noun, int want, String said) {
        x.clear();
        String call = "act(" + action + ", " + noun + ")";
        due(call, x.act(action, noun), want);
        due("what " + call + " says", said(), said);
    }

    void place(int object, int how, int where) {
        due("object(" + object + ", 1)", x.object(object, 1), how);
        due("object(" + object + ", 2)", x.object(object, 2), where);
    }

    static String times(String text, int n) {
        StringBuilder s = new StringBuilder();
        for (int i = 0; i < n; i++) {
            s.append(text);
        }
        return s.toString();
    }

    /** A word of its own for each number. */
    static String word(int i) {
        return "w" + (char) ('a' + i / 26) + (char) ('a' + i % 26);
    }

    /** Names with a , between: word(from) up to, not with, word(to). */
    static String words(int from, int to) {
        StringBuilder s = new StringBuilder();
        for (int i = from; i < to; i++) {
            s.append(i > from ? ", " : "").append(word(i));
        }
        return s.toString();
    }

    void end(String test) {
        of("");
        System.out.println(test + ": " + asked + " answers asked, " + wrong + " wrong");
        if (wrong != 0) {
            System.exit(1);
        }
    }

    /** An object whose calls are counted: what it answers behind the 512th is free, so no test may ask for that. */
    static final class Counted {
        static final int CALLS_MOST = 512;

        private final RuleSentences x = new RuleSentences();
        private int calls = 0;
        private boolean beyond = false;

        private RuleSentences called() {
            calls++;
            if (calls == CALLS_MOST + 1 && !beyond) {
                throw new IllegalStateException("this test asks an object more than " + CALLS_MOST + " calls");
            }
            return x;
        }

        int calls() {
            return calls;
        }

        /** Of a tape of 5000 bytes the end can't be seen with fewer calls. */
        void mayGoBeyond() {
            beyond = true;
        }

        int feed(long w, int n) {
            return called().feed(w, n);
        }

        int wipe() {
            return called().wipe();
        }

        int read() {
            return called().read();
        }

        int fault() {
            return called().fault();
        }

        int told(int what) {
            return called().told(what);
        }

        int name(int what, int i, int k) {
            return called().name(what, i, k);
        }

        int kind(int i, int what) {
            return called().kind(i, what);
        }

        int object(int i, int what) {
            return called().object(i, what);
        }

        int is(int object, int adjective) {
            return called().is(object, adjective);
        }

        int property(int object, int property) {
            return called().property(object, property);
        }

        int letter(int object, int property, int k) {
            return called().letter(object, property, k);
        }

        int leads(int room, int direction) {
            return called().leads(room, direction);
        }

        boolean related(int relation, int a, int b) {
            return called().related(relation, a, b);
        }

        int rule(int i, int what) {
            return called().rule(i, what);
        }

        int act(int action, int noun) {
            return called().act(action, noun);
        }

        int command() {
            return called().command();
        }

        int outs() {
            return called().outs();
        }

        int out(int i) {
            return called().out(i);
        }

        int clear() {
            return called().clear();
        }
    }
}
