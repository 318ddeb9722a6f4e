/**
 * A reader of sentences that tell a world in plain words, and the world that they tell, which goes on by acts.
 *
 * The way of a story: Tokens takes in a sentence, Grammar finds its sort or the token that spoils it, Reader and
 * RuleReader (with the help of Meanings) ask what its words mean and do what it tells. Turns then runs acts.
 * All rows are made once, in the constructors, and are used again by every later call.
 */
public final class RuleSentences {

    public static final int NONE = -1;

    private static final int TAPE_MOST = 5000;

    /** The KEYS; a key's number is its place in this text. */
    private static final String KEYS = "a an the some is are not of in on by to has can be or and called kind plural value relates one various means verb relation action applying part carried worn usually understand as definition if when before instead after every turn say now move increase decrease stop try than less more noun it";
    private static final int KEY_COUNT = 55;
    private static final int KEY_A = 0;
    private static final int KEY_AN = 1;
    private static final int KEY_THE = 2;
    private static final int KEY_SOME = 3;
    private static final int KEY_IS = 4;
    private static final int KEY_ARE = 5;
    private static final int KEY_NOT = 6;
    private static final int KEY_OF = 7;
    private static final int KEY_IN = 8;
    private static final int KEY_ON = 9;
    private static final int KEY_BY = 10;
    private static final int KEY_TO = 11;
    private static final int KEY_HAS = 12;
    private static final int KEY_CAN = 13;
    private static final int KEY_BE = 14;
    private static final int KEY_OR = 15;
    private static final int KEY_AND = 16;
    private static final int KEY_CALLED = 17;
    private static final int KEY_KIND = 18;
    private static final int KEY_PLURAL = 19;
    private static final int KEY_VALUE = 20;
    private static final int KEY_RELATES = 21;
    private static final int KEY_ONE = 22;
    private static final int KEY_VARIOUS = 23;
    private static final int KEY_MEANS = 24;
    private static final int KEY_VERB = 25;
    private static final int KEY_RELATION = 26;
    private static final int KEY_ACTION = 27;
    private static final int KEY_APPLYING = 28;
    private static final int KEY_PART = 29;
    private static final int KEY_CARRIED = 30;
    private static final int KEY_WORN = 31;
    private static final int KEY_USUALLY = 32;
    private static final int KEY_UNDERSTAND = 33;
    private static final int KEY_AS = 34;
    private static final int KEY_DEFINITION = 35;
    private static final int KEY_IF = 36;
    private static final int KEY_WHEN = 37;
    private static final int KEY_BEFORE = 38;
    private static final int KEY_INSTEAD = 39;
    private static final int KEY_AFTER = 40;
    private static final int KEY_EVERY = 41;
    private static final int KEY_TURN = 42;
    private static final int KEY_SAY = 43;
    private static final int KEY_NOW = 44;
    private static final int KEY_MOVE = 45;
    private static final int KEY_INCREASE = 46;
    private static final int KEY_DECREASE = 47;
    private static final int KEY_STOP = 48;
    private static final int KEY_TRY = 49;
    private static final int KEY_THAN = 50;
    private static final int KEY_LESS = 51;
    private static final int KEY_MORE = 52;
    private static final int KEY_NOUN = 53;
    private static final int KEY_IT = 54;

    /** What a token is, if it is no key. */
    private static final int FREE = 100;
    private static final int NUMBER = 101;
    private static final int TEXT = 102;
    private static final int DOT = 103;
    private static final int COMMA = 104;
    private static final int SEMICOLON = 105;
    private static final int COLON = 106;
    private static final int END = 107;
    private static final int BAD = 108;

    /** What words mean; up to ACTIONS, and for KIND_PLURALS, the numbers are those of told() and name(). */
    private static final int KINDS = 0;
    private static final int TYPES = 1;
    private static final int OBJECTS = 2;
    private static final int ADJECTIVES = 3;
    private static final int VALUES = 4;
    private static final int PROPERTIES = 5;
    private static final int RELATIONS = 6;
    private static final int VERBS = 7;
    private static final int ACTIONS = 8;
    private static final int TOLD_RULES = 9;
    private static final int TOLD_COMMANDS = 10;
    private static final int KIND_PLURALS = 11;
    private static final int TYPE_PLURALS = 12;
    private static final int VERBS_WITH_S = 13;
    private static final int DIRECTIONS = 14;

    /** What the world has AT FIRST. */
    private static final int THING = 0;
    private static final int ROOM = 1;
    private static final int CONTAINER = 2;
    private static final int SUPPORTER = 3;
    private static final int PERSON = 4;
    private static final int TYPE_NUMBER = 0;
    private static final int TYPE_TEXT = 1;
    private static final int FIXED = 0;
    private static final int DESCRIPTION = 0;
    private static final int PLAYER = 0;
    private static final int TAKING = 1;
    private static final int DROPPING = 2;
    private static final int EXAMINING = 3;
    private static final int GOING = 4;
    private static final int DIRECTION_COUNT = 6;

    /** How an object is placed. */
    private static final int NOWHERE = 0;
    private static final int WAY_IN = 1;
    private static final int WAY_ON = 2;
    private static final int WAY_PART = 3;
    private static final int WAY_CARRIED = 4;
    private static final int WAY_WORN = 5;

    /** The most that there may be of each sort. */
    private static final int KIND_MOST = 16;
    private static final int TYPE_MOST = 8;
    private static final int OBJECT_MOST = 24;
    private static final int ADJECTIVE_MOST = 24;
    private static final int VALUE_MOST = 8;
    private static final int PROPERTY_MOST = 12;
    private static final int RELATION_MOST = 6;
    private static final int VERB_MOST = 8;
    private static final int ACTION_MOST = 12;
    private static final int COMMAND_MOST = 20;
    private static final int RULE_MOST = 24;
    private static final int TEST_MOST = 6;
    private static final int PHRASE_MOST = 8;
    private static final int ADJECTIVES_AHEAD_MOST = 5;
    private static final int NAME_MOST = 3;
    private static final int WORD_MOST = 12;

    /** In place of an object's number: the it of a definition, the noun of a rule. */
    private static final int SELF = -2;
    /** In place of an action's kind: it is of directions. */
    private static final int DIRECTED = -2;

    /** A word is a number with a letter in each of its figures, so that even thirteen letters fit into a long. */
    private static final int LETTER_BASE = 27;
    private static final int LETTER_S = 19;

    private final Vocabulary vocabulary;
    private final World world;
    private final Book book;
    private final Commands commands;
    private final Tokens tokens;
    private final Grammar grammar;
    private final Reader reader;
    private final Turns turns;
    private byte[] tape;
    private byte[] story;
    private int fed;
    private int latestFault;

    public RuleSentences() {
        vocabulary = new Vocabulary();
        world = new World(vocabulary);
        book = new Book(vocabulary);
        tokens = new Tokens();
        commands = new Commands(tokens, vocabulary, world);
        grammar = new Grammar(tokens);
        reader = new Reader(tokens, grammar, world, book, commands);
        turns = new Turns(world, book);
        tape = new byte[TAPE_MOST];
        story = new byte[TAPE_MOST];
        fed = 0;
        latestFault = 0;
        startAgain();
    }

    public int feed(long w, int n) {
        if (n < 1 || n > 8 || fed + n > TAPE_MOST) {
            return NONE;
        }
        for (int i = n - 1; i >= 0; i--) {
            tape[fed] = (byte) (w >>> (8 * i));
            fed++;
        }
        return fed;
    }

    public int wipe() {
        int had = fed;
        fed = 0;
        return had;
    }

    public int read() {
        int length = wipe();
        // The story's bytes hold the world's texts, so they may not be fed over: the two rows change places.
        byte[] other = story;
        story = tape;
        tape = other;
        turns.empty();
        startAgain();
        world.texts = story;
        tokens.open(story, length);
        int sentences = 0;
        int at = tokens.skip(0);
        while (at < length && sentences < length && tokens.fault == 0) {
            sentences++;
            at = tokens.skip(tokens.takeSentence(at));
            if (tokens.endsBadly()) {
                tokens.wrong(1, tokens.lastRow());
            } else if (!grammar.check()) {
                tokens.wrong(2, grammar.at);
            } else if (grammar.sort < 9) {
                reader.beginSentence();
            } else {
                reader.tellSentence();
            }
        }
        if (sentences == 0) {
            tokens.wrong(2, NONE);
        }
        latestFault = tokens.fault;
        if (latestFault != 0) {
            startAgain();
            return -10 - tokens.faultPlace;
        }
        world.placePlayer();
        book.putInOrder();
        return sentences;
    }

    public int fault() {
        return latestFault;
    }

    public int told(int what) {
        if (what == TOLD_RULES) {
            return book.rules;
        }
        if (what == TOLD_COMMANDS) {
            return commands.count;
        }
        return vocabulary.countOf(what);
    }

    public int name(int what, int i, int k) {
        boolean plural = what == KIND_PLURALS;
        if (i < 0 || i >= vocabulary.countOf(plural ? KINDS : what)) {
            return NONE;
        }
        return vocabulary.nameByte(what, i, k);
    }

    public int kind(int i, int what) {
        if (i < 0 || i >= vocabulary.countOf(KINDS)) {
            return NONE;
        }
        switch (what) {
            case 0:
                return vocabulary.kindAbove[i];
            case 1:
                return Integer.bitCount(vocabulary.propertiesOf(i));
            case 2:
                return vocabulary.adjectivesOf(i);
            default:
                return NONE;
        }
    }

    public int object(int i, int what) {
        if (!isObject(i)) {
            return NONE;
        }
        switch (what) {
            case 0:
                return world.kindOf[i];
            case 1:
                return world.way[i];
            case 2:
                return world.holder[i];
            default:
                return NONE;
        }
    }

    public int is(int object, int adjective) {
        if (!isObject(object) || adjective < 0 || adjective >= vocabulary.countOf(ADJECTIVES)
                || !world.isA(object, vocabulary.adjectiveKind[adjective])) {
            return NONE;
        }
        return turns.adjectiveHolds(object, adjective, 0) ? 1 : 0;
    }

    public int property(int object, int property) {
        if (!hasProperty(object, property)) {
            return NONE;
        }
        return vocabulary.propertyType[property] == TYPE_TEXT
            ? world.lengthOf(object, property) : world.valueOf(object, property);
    }

    public int letter(int object, int property, int k) {
        if (!hasProperty(object, property) || vocabulary.propertyType[property] != TYPE_TEXT
                || k < 0 || k >= world.lengthOf(object, property)) {
            return NONE;
        }
        return world.texts[world.valueOf(object, property) + k] & 255;
    }

    public int leads(int room, int direction) {
        if (!isObject(room) || direction < 0 || direction >= DIRECTION_COUNT) {
            return NONE;
        }
        return world.roomBehind(room, direction);
    }

    public boolean related(int relation, int a, int b) {
        return relation >= 0 && relation < vocabulary.countOf(RELATIONS) && isObject(a) && isObject(b)
            && world.isRelated(relation, a, b);
    }

    public int rule(int i, int what) {
        if (i < 0 || i >= book.rules || what < 0 || what > 7) {
            return NONE;
        }
        return what == 7 ? book.placeInOrder(i) : book.rule[i][what];
    }

    public int act(int action, int noun) {
        if (action < 0 || action >= vocabulary.countOf(ACTIONS)) {
            return NONE;
        }
        int of = vocabulary.actionKind[action];
        boolean suits;
        if (of == NONE) {
            suits = noun == NONE;
        } else if (of == DIRECTED) {
            suits = noun >= 0 && noun < DIRECTION_COUNT;
        } else {
            suits = isObject(noun) && world.isA(noun, of);
        }
        return suits ? turns.takeTurn(action, noun) : NONE;
    }

    public int command() {
        int length = wipe();
        if (!commands.takeTyped(tape, length)) {
            return -2;
        }
        for (int i = 0; i < commands.count; i++) {
            if (commands.fits(i)) {
                return turns.takeTurn(commands.action[i], commands.noun);
            }
        }
        return -2;
    }

    public int outs() {
        return turns.written;
    }

    public int out(int i) {
        return i >= 0 && i < turns.written ? turns.page[i] & 255 : NONE;
    }

    public int clear() {
        int had = turns.written;
        turns.empty();
        return had;
    }

    private void startAgain() {
        vocabulary.startAgain();
        world.startAgain();
        book.startAgain();
        commands.startAgain();
        reader.startAgain();
    }

    private boolean isObject(int i) {
        return i >= 0 && i < vocabulary.countOf(OBJECTS);
    }

    private boolean hasProperty(int object, int property) {
        return isObject(object) && property >= 0 && property < vocabulary.countOf(PROPERTIES)
            && (vocabulary.propertiesOf(world.kindOf[object]) >> property & 1) == 1;
    }

    /** 1 .. 26 for a letter, whatever its size; 0 for any other byte. */
    private static int letterOf(int b) {
        int small = (b | 32) - 'a' + 1;
        return b > 0 && small >= 1 && small <= 26 ? small : 0;
    }

    private static boolean isArt(int type) {
        return type >= KEY_A && type <= KEY_SOME;
    }

    /** What words mean, and what was told of kinds, TYPES, adjectives, values, properties, relations, verbs, actions. */
    private static final class Vocabulary {
        /** Names of all sorts, with plurals and verbs twice, and 48 values: 196 at most. */
        private static final int ENTRIES = 200;
        private static final int VALUES_IN_ALL = VALUE_MOST * TYPE_MOST;

        private final long[] words = new long[NAME_MOST * ENTRIES];
        private final int[] sorts = new int[ENTRIES];
        private final int[] whiches = new int[ENTRIES];
        private int entries;
        private final int[] counts = new int[ACTIONS + 1];
        final int[] kindAbove = new int[KIND_MOST];
        /** A bit for each property that was told of that kind itself. */
        final int[] kindHas = new int[KIND_MOST];
        final int[] valueType = new int[VALUES_IN_ALL];
        final int[] propertyType = new int[PROPERTY_MOST];
        final int[] adjectiveKind = new int[ADJECTIVE_MOST];
        /** The contrary adjective; NONE for a DEFINED one. */
        final int[] contrary = new int[ADJECTIVE_MOST];
        final int[] firstTest = new int[ADJECTIVE_MOST];
        final int[] testCount = new int[ADJECTIVE_MOST];
        final int[] relationFrom = new int[RELATION_MOST];
        final int[] relationTo = new int[RELATION_MOST];
        final boolean[] oneFrom = new boolean[RELATION_MOST];
        final boolean[] oneTo = new boolean[RELATION_MOST];
        final int[] verbRelation = new int[VERB_MOST];
        final int[] actionKind = new int[ACTION_MOST];

        void startAgain() {
            entries = 0;
            for (int i = 0; i < counts.length; i++) {
                counts[i] = 0;
            }
            startKinds();
            addFirst(TYPES, "number");
            addFirst(TYPES, "text");
            propertyType[addFirst(PROPERTIES, "description")] = TYPE_TEXT;
            kindHas[THING] = 1 << DESCRIPTION;
            kindHas[ROOM] = 1 << DESCRIPTION;
            addFirst(ADJECTIVES, "fixed");
            addFirst(ADJECTIVES, "portable");
            makeContrary(FIXED, THING);
            actionKind[addFirst(ACTIONS, "waiting")] = NONE;
            actionKind[addFirst(ACTIONS, "taking")] = THING;
            actionKind[addFirst(ACTIONS, "dropping")] = THING;
            actionKind[addFirst(ACTIONS, "examining")] = THING;
            actionKind[addFirst(ACTIONS, "going")] = DIRECTED;
            addDirection("north", 0);
            addDirection("south", 1);
            addDirection("east", 2);
            addDirection("west", 3);
            addDirection("up", 4);
            addDirection("down", 5);
        }

        private void startKinds() {
            startKind("thing", "things", NONE);
            startKind("room", "rooms", NONE);
            startKind("container", "containers", THING);
            startKind("supporter", "supporters", THING);
            startKind("person", "people", THING);
        }

        private void startKind(String word, String plural, int above) {
            int i = addFirst(KINDS, word);
            addEntry(KIND_PLURALS, i, codeOf(plural));
            kindAbove[i] = above;
            kindHas[i] = 0;
        }

        int addFirst(int sort, String word) {
            int i = counts[sort];
            counts[sort]++;
            addEntry(sort, i, codeOf(word));
            return i;
        }

        private void addDirection(String word, int i) {
            addEntry(DIRECTIONS, i, codeOf(word));
        }

        private void addEntry(int sort, int which, long word) {
            if (entries < ENTRIES) {
                words[NAME_MOST * entries] = word;
                words[NAME_MOST * entries + 1] = 0;
                words[NAME_MOST * entries + 2] = 0;
                sorts[entries] = sort;
                whiches[entries] = which;
                entries++;
            }
        }

        static long codeOf(String word) {
            long code = 0;
            for (int i = 0; i < word.length(); i++) {
                code = code * LETTER_BASE + letterOf(word.charAt(i));
            }
            return code;
        }

        int countOf(int sort) {
            return sort >= 0 && sort < counts.length ? counts[sort] : NONE;
        }

        /** What words of a row mean: its sort * 256 and its number; NONE for nothing. */
        int meaning(long[] row, int from, int to) {
            int n = to - from;
            if (n < 1 || n > NAME_MOST || from < 0 || to > row.length) {
                return NONE;
            }
            long second = n > 1 ? row[from + 1] : 0;
            long third = n > 2 ? row[from + 2] : 0;
            for (int i = 0; i < entries; i++) {
                int w = NAME_MOST * i;
                if (words[w] == row[from] && words[w + 1] == second && words[w + 2] == third) {
                    return sorts[i] * 256 + whiches[i];
                }
            }
            return NONE;
        }

        /** The next thing of a sort, with words of a row as its name. */
        int tellNew(int sort, long[] row, int from, int to) {
            int i = counts[sort];
            counts[sort]++;
            nameIt(sort, i, row, from, to);
            return i;
        }

        /** Words of a row are the name of a thing from now on, in place of an earlier one of that sort. */
        void nameIt(int sort, int which, long[] row, int from, int to) {
            int entry = entryOf(sort, which);
            if (entry == NONE) {
                entry = entries;
                addEntry(sort, which, 0);
            }
            for (int i = 0; i < NAME_MOST && entry < ENTRIES; i++) {
                words[NAME_MOST * entry + i] = from + i < to ? row[from + i] : 0;
            }
        }

        private int entryOf(int sort, int which) {
            for (int i = 0; i < entries; i++) {
                if (sorts[i] == sort && whiches[i] == which) {
                    return i;
                }
            }
            return NONE;
        }

        /** Byte k of a name; NONE. */
        int nameByte(int sort, int which, int k) {
            int left = k;
            for (int i = 0; i < NAME_MOST * entries && left >= 0; i++) {
                long word = words[i];
                if (word == 0 || sorts[i / NAME_MOST] != sort || whiches[i / NAME_MOST] != which) {
                    continue;
                }
                boolean first = i % NAME_MOST == 0;
                if (!first && left == 0) {
                    return ' ';
                }
                left -= first ? 0 : 1;
                int length = 1;
                long unit = 1;
                while (unit <= word / LETTER_BASE) {
                    unit *= LETTER_BASE;
                    length++;
                }
                if (left < length) {
                    for (int n = 0; n < left && unit >= LETTER_BASE; n++) {
                        unit /= LETTER_BASE;
                    }
                    return 'a' - 1 + (int) (word / unit % LETTER_BASE);
                }
                left -= length;
            }
            return NONE;
        }

        /** Whether a kind is another one or below it. */
        boolean isKind(int kind, int other) {
            int k = kind;
            for (int i = 0; i < KIND_MOST && k >= 0; i++) {
                if (k == other) {
                    return true;
                }
                k = kindAbove[k];
            }
            return false;
        }

        int kindsAbove(int kind) {
            int k = kindAbove[kind];
            int n = 0;
            while (n < KIND_MOST && k >= 0) {
                k = kindAbove[k];
                n++;
            }
            return n;
        }

        /** A bit for each property that a kind has, by itself or by those above. */
        int propertiesOf(int kind) {
            int all = 0;
            int k = kind;
            for (int i = 0; i < KIND_MOST && k >= 0; i++) {
                all |= kindHas[k];
                k = kindAbove[k];
            }
            return all;
        }

        int adjectivesOf(int kind) {
            int n = 0;
            for (int i = 0; i < counts[ADJECTIVES]; i++) {
                if (isKind(kind, adjectiveKind[i])) {
                    n++;
                }
            }
            return n;
        }

        void makeContrary(int first, int kind) {
            adjectiveKind[first] = kind;
            adjectiveKind[first + 1] = kind;
            contrary[first] = first + 1;
            contrary[first + 1] = first;
        }

        int valuesOf(int type) {
            int n = 0;
            for (int i = 0; i < counts[VALUES]; i++) {
                n += valueType[i] == type ? 1 : 0;
            }
            return n;
        }

        int firstValueOf(int type) {
            for (int i = 0; i < counts[VALUES]; i++) {
                if (valueType[i] == type) {
                    return i;
                }
            }
            return NONE;
        }
    }

    /** The objects, and what holds of them: as told, and as acts have changed it. */
    private static final class World {
        /** What is told of all of a kind stands in rows behind those of the objects. */
        static final int KIND_ROWS = OBJECT_MOST;
        private static final int ROWS = OBJECT_MOST + KIND_MOST;

        private final Vocabulary v;
        byte[] texts;
        final int[] kindOf = new int[OBJECT_MOST];
        final int[] way = new int[OBJECT_MOST];
        final int[] holder = new int[OBJECT_MOST];
        /** 1 it holds, -1 its contrary does, 0 nothing was told. */
        private final int[][] adjectives = new int[ROWS][ADJECTIVE_MOST];
        private final int[][] known = new int[ROWS][PROPERTY_MOST];
        /** A number, a value, or where a text begins. */
        private final int[][] values = new int[ROWS][PROPERTY_MOST];
        private final int[][] lengths = new int[ROWS][PROPERTY_MOST];
        /** For each relation and object a bit for each object that it is so related to. */
        private final int[][] relations = new int[RELATION_MOST][OBJECT_MOST];
        private final int[][] ways = new int[OBJECT_MOST][DIRECTION_COUNT];
        /** When each way was told. */
        private final int[][] wayOrder = new int[OBJECT_MOST][DIRECTION_COUNT];
        private int waysTold;

        World(Vocabulary v) {
            this.v = v;
            this.texts = new byte[0];
        }

        void startAgain() {
            for (int row = 0; row < ROWS; row++) {
                for (int a = 0; a < ADJECTIVE_MOST; a++) {
                    adjectives[row][a] = 0;
                }
                for (int p = 0; p < PROPERTY_MOST; p++) {
                    known[row][p] = 0;
                }
            }
            for (int i = 0; i < OBJECT_MOST; i++) {
                for (int r = 0; r < RELATION_MOST; r++) {
                    relations[r][i] = 0;
                }
                for (int d = 0; d < DIRECTION_COUNT; d++) {
                    ways[i][d] = NONE;
                }
            }
            waysTold = 0;
            makeObject(v.addFirst(OBJECTS, "player"), PERSON);
        }

        void makeObject(int object, int kind) {
            kindOf[object] = kind;
            way[object] = NOWHERE;
            holder[object] = NONE;
        }

        boolean isA(int object, int kind) {
            return v.isKind(kindOf[object], kind);
        }

        /** False, if it was told to be of a kind that does not go with this one. */
        boolean tellKind(int object, int kind) {
            if (v.isKind(kind, kindOf[object])) {
                kindOf[object] = kind;
                return true;
            }
            return v.isKind(kindOf[object], kind);
        }

        /** False, if the contrary was told. */
        boolean tellAdjective(int row, int adjective, boolean holds) {
            if (adjectives[row][adjective] == (holds ? -1 : 1)) {
                return false;
            }
            setAdjective(row, adjective, holds);
            return true;
        }

        void setAdjective(int row, int adjective, boolean holds) {
            int other = v.contrary[adjective];
            adjectives[row][adjective] = holds ? 1 : -1;
            if (other != NONE) {
                adjectives[row][other] = holds ? -1 : 1;
            }
        }

        /** Whether an adjective that is not DEFINED holds. */
        boolean hasAdjective(int object, int adjective) {
            int state = adjectives[object][adjective];
            int k = kindOf[object];
            for (int i = 0; i < KIND_MOST && k >= 0 && state == 0; i++) {
                state = adjectives[KIND_ROWS + k][adjective];
                k = v.kindAbove[k];
            }
            return state != 0 ? state > 0 : v.contrary[adjective] < adjective;
        }

        /** False, if something else was told. */
        boolean tellProperty(int row, int property, int value, int length) {
            if (known[row][property] != 0) {
                return v.propertyType[property] == TYPE_TEXT
                    ? sameText(values[row][property], lengths[row][property], value, length)
                    : values[row][property] == value;
            }
            setProperty(row, property, value, length);
            return true;
        }

        void setProperty(int row, int property, int value, int length) {
            known[row][property] = 1;
            values[row][property] = value;
            lengths[row][property] = length;
        }

        boolean sameText(int a, int lengthA, int b, int lengthB) {
            if (lengthA != lengthB) {
                return false;
            }
            for (int i = 0; i < lengthA; i++) {
                if (texts[a + i] != texts[b + i]) {
                    return false;
                }
            }
            return true;
        }

        private int tellingRow(int object, int property) {
            if (known[object][property] != 0) {
                return object;
            }
            int k = kindOf[object];
            for (int i = 0; i < KIND_MOST && k >= 0; i++) {
                if (known[KIND_ROWS + k][property] != 0) {
                    return KIND_ROWS + k;
                }
                k = v.kindAbove[k];
            }
            return NONE;
        }

        /** A number, a value, or where the text begins. */
        int valueOf(int object, int property) {
            int row = tellingRow(object, property);
            if (row != NONE) {
                return values[row][property];
            }
            int type = v.propertyType[property];
            return type == TYPE_NUMBER || type == TYPE_TEXT ? 0 : v.firstValueOf(type);
        }

        int lengthOf(int object, int property) {
            int row = tellingRow(object, property);
            return row == NONE ? 0 : lengths[row][property];
        }

        /** 0, or the fault that telling this place is. */
        int tellPlace(int object, int how, int where) {
            if (!isA(object, THING)) {
                return 5;
            }
            if (way[object] != NOWHERE) {
                return way[object] == how && holder[object] == where ? 0 : 5;
            }
            if (isWithin(where, object)) {
                return 6;
            }
            place(object, how, where);
            return 0;
        }

        void place(int object, int how, int where) {
            way[object] = how;
            holder[object] = where;
        }

        /** Whether an object is another one, or within it by any steps. */
        boolean isWithin(int object, int other) {
            int o = object;
            for (int i = 0; i <= OBJECT_MOST && o >= 0; i++) {
                if (o == other) {
                    return true;
                }
                o = holder[o];
            }
            return false;
        }

        void placePlayer() {
            for (int i = 0; i < v.countOf(OBJECTS) && way[PLAYER] == NOWHERE; i++) {
                if (isA(i, ROOM)) {
                    place(PLAYER, WAY_IN, i);
                }
            }
        }

        /** False, if that way leads to another room. */
        boolean tellWay(int room, int direction, int to) {
            if (ways[room][direction] != NONE) {
                return ways[room][direction] == to;
            }
            ways[room][direction] = to;
            wayOrder[room][direction] = waysTold;
            waysTold++;
            return true;
        }

        int roomBehind(int room, int direction) {
            if (ways[room][direction] != NONE) {
                return ways[room][direction];
            }
            int back = direction ^ 1;
            int found = NONE;
            for (int b = 0; b < OBJECT_MOST; b++) {
                if (ways[b][back] == room && (found == NONE || wayOrder[b][back] < wayOrder[found][back])) {
                    found = b;
                }
            }
            return found;
        }

        boolean isRelated(int relation, int a, int b) {
            return (relations[relation][a] >> b & 1) == 1;
        }

        /** False, if one of the two is so related to another one, and may be to one only. */
        boolean tellRelated(int relation, int a, int b) {
            if (v.oneTo[relation] && (relations[relation][a] & ~(1 << b)) != 0) {
                return false;
            }
            for (int i = 0; i < OBJECT_MOST && v.oneFrom[relation]; i++) {
                if (i != a && isRelated(relation, i, b)) {
                    return false;
                }
            }
            relations[relation][a] |= 1 << b;
            return true;
        }

        void relateNow(int relation, int a, int b) {
            if (v.oneTo[relation]) {
                relations[relation][a] = 0;
            }
            for (int i = 0; i < OBJECT_MOST && v.oneFrom[relation]; i++) {
                relations[relation][i] &= ~(1 << b);
            }
            relations[relation][a] |= 1 << b;
        }
    }

    /** A TEST or a PHRASE (one of now has the form of its TEST). */
    private static final class Clause {
        static final int ADJECTIVE = 0;
        static final int VALUE = 1;
        static final int LESS = 2;
        static final int MORE = 3;
        static final int TEXT_IS = 4;
        static final int PLACED = 5;
        static final int RELATED = 6;
        static final int SAY = 7;
        static final int MOVE = 8;
        static final int ADD = 9;
        static final int TRY = 10;
        static final int STOP = 11;

        int form;
        boolean not;
        int who;
        /** The adjective, property, relation or action; of SAY its first insert. */
        int which;
        /** The number, value or way; where the text begins. */
        int what;
        int length;
        int whom;

        void start(int theForm) {
            form = theForm;
            not = false;
            who = NONE;
            which = NONE;
            what = 0;
            length = 0;
            whom = NONE;
        }
    }

    /** The RULES, the TESTS of definitions, and what stands in [ ] of the texts that rules say. */
    private static final class Book {
        /** A rule's row: up to PHRASES these are the numbers of rule(). */
        static final int SORT = 0;
        static final int ACTION = 1;
        static final int OBJECT = 2;
        static final int KIND = 3;
        static final int ADJECTIVE_COUNT = 4;
        static final int TEST_COUNT = 5;
        static final int PHRASE_COUNT = 6;
        static final int FIRST = 7;

        static final int BEFORE = 0;
        static final int INSTEAD = 1;
        static final int AFTER = 2;
        static final int EVERY_TURN = 3;

        private static final int CLAUSES = RULE_MOST * (ADJECTIVES_AHEAD_MOST + TEST_MOST + PHRASE_MOST)
            + ADJECTIVE_MOST * TEST_MOST;
        /** An insert takes three bytes of the tape at least. */
        private static final int INSERTS = TAPE_MOST / 3;

        private final Vocabulary v;
        final int[][] rule = new int[RULE_MOST][FIRST + 1];
        int rules;
        final int[] order = new int[RULE_MOST];
        private final Clause[] clauses = new Clause[CLAUSES];
        int clauseCount;
        private final int[] insertThing = new int[INSERTS];
        private final int[] insertProperty = new int[INSERTS];
        int inserts;

        Book(Vocabulary v) {
            this.v = v;
            for (int i = 0; i < CLAUSES; i++) {
                clauses[i] = new Clause();
            }
        }

        void startAgain() {
            rules = 0;
            clauseCount = 0;
            inserts = 0;
        }

        int[] startRule(int sort) {
            int[] row = rule[rules];
            row[SORT] = sort;
            row[ACTION] = NONE;
            row[OBJECT] = NONE;
            row[KIND] = NONE;
            row[ADJECTIVE_COUNT] = 0;
            row[TEST_COUNT] = 0;
            row[PHRASE_COUNT] = 0;
            row[FIRST] = clauseCount;
            return row;
        }

        Clause nextClause(int form) {
            Clause c = clauses[clauseCount < CLAUSES ? clauseCount : CLAUSES - 1];
            clauseCount++;
            c.start(form);
            return c;
        }

        Clause clauseAt(int i) {
            return clauses[i >= 0 && i < CLAUSES ? i : CLAUSES - 1];
        }

        void addInsert(int thing, int property) {
            if (inserts < INSERTS) {
                insertThing[inserts] = thing;
                insertProperty[inserts] = property;
                inserts++;
            }
        }

        int thingOfInsert(int i) {
            return i >= 0 && i < inserts ? insertThing[i] : NONE;
        }

        int propertyOfInsert(int i) {
            return i >= 0 && i < inserts ? insertProperty[i] : NONE;
        }

        void putInOrder() {
            for (int i = 0; i < rules; i++) {
                int at = i;
                while (at > 0 && comesFirst(rule[i], rule[order[at - 1]])) {
                    order[at] = order[at - 1];
                    at--;
                }
                order[at] = i;
            }
        }

        /** Whether a rule comes ahead of one that was told earlier. */
        private boolean comesFirst(int[] a, int[] b) {
            int byRank = rank(a) - rank(b);
            if (byRank != 0) {
                return byRank < 0;
            }
            if (a[KIND] != NONE && b[KIND] != NONE) {
                int byKind = v.kindsAbove(a[KIND]) - v.kindsAbove(b[KIND]);
                if (byKind != 0) {
                    return byKind > 0;
                }
                if (a[ADJECTIVE_COUNT] != b[ADJECTIVE_COUNT]) {
                    return a[ADJECTIVE_COUNT] > b[ADJECTIVE_COUNT];
                }
            }
            return a[TEST_COUNT] > b[TEST_COUNT];
        }

        private static int rank(int[] row) {
            if (row[OBJECT] != NONE) {
                return 0;
            }
            return row[KIND] != NONE ? 1 : 2;
        }

        int placeInOrder(int i) {
            int n = 0;
            for (int at = 0; at < rules && order[at] != i; at++) {
                if (rule[order[at]][SORT] == rule[i][SORT]) {
                    n++;
                }
            }
            return n;
        }
    }

    /** What commands mean. */
    private static final class Commands {
        private static final int WORDS = 8;
        private static final int TYPED_MOST = 50;
        /** In place of a word that is too long to be any. */
        private static final long NO_WORD = -1;

        private final Tokens t;
        private final Vocabulary v;
        private final World w;
        int count;
        final int[] action = new int[COMMAND_MOST];
        private final int[] size = new int[COMMAND_MOST];
        /** Which of the words is the [ ]; NONE. */
        private final int[] gap = new int[COMMAND_MOST];
        private final int[] gapKind = new int[COMMAND_MOST];
        private final long[] words = new long[COMMAND_MOST * WORDS];
        private final long[] gapRun = new long[NAME_MOST];
        private int gapWords;
        private final long[] typed = new long[TYPED_MOST];
        private int typedCount;
        int noun;

        Commands(Tokens t, Vocabulary v, World w) {
            this.t = t;
            this.v = v;
            this.w = w;
        }

        void startAgain() {
            count = 0;
            addFirst("wait", NONE, 0);
            addFirst("take", THING, TAKING);
            addFirst("get", THING, TAKING);
            addFirst("drop", THING, DROPPING);
            addFirst("examine", THING, EXAMINING);
            addFirst("go", DIRECTED, GOING);
            addFirst("", DIRECTED, GOING);
        }

        private void addFirst(String word, int kind, int theAction) {
            int n = 0;
            if (word.length() > 0) {
                words[count * WORDS] = Vocabulary.codeOf(word);
                n++;
            }
            gap[count] = kind == NONE ? NONE : n;
            gapKind[count] = kind;
            size[count] = kind == NONE ? n : n + 1;
            addAs(theAction);
        }

        void addAs(int theAction) {
            action[count] = theAction;
            count++;
        }

        /** Takes a text in as the next command's words; false, if it is not as it must be. */
        boolean takeText(byte[] text, int from, int to) {
            int n = 0;
            int p = from;
            gap[count] = NONE;
            gapKind[count] = NONE;
            while (p < to) {
                if (text[p] == ' ') {
                    p++;
                    continue;
                }
                if (n == WORDS || text[p] == '[' && gap[count] != NONE) {
                    return false;
                }
                if (text[p] == '[') {
                    gap[count] = n;
                    p = takeGap(text, p + 1, to);
                } else {
                    int behind = wordEnd(text, p, to);
                    words[count * WORDS + n] = codeOf(text, p, behind);
                    p = behind > p && behind - p <= WORD_MOST ? behind : NONE;
                }
                if (p == NONE || p < to && text[p] != ' ') {
                    return false;
                }
                n++;
            }
            size[count] = n;
            return n > 0;
        }

        /** Takes in the RUN up to a ] ; answers what is behind that, NONE if there is no such. */
        private int takeGap(byte[] text, int from, int to) {
            int p = from;
            gapWords = 0;
            while (p < to) {
                if (text[p] == ']') {
                    return gapWords > 0 ? p + 1 : NONE;
                }
                if (text[p] == ' ') {
                    p++;
                    continue;
                }
                int behind = wordEnd(text, p, to);
                long word = codeOf(text, p, behind);
                if (behind == p || behind - p > WORD_MOST || t.keyOf(word) != FREE) {
                    return NONE;
                }
                if (gapWords < NAME_MOST) {
                    gapRun[gapWords] = word;
                }
                gapWords++;
                p = behind;
            }
            return NONE;
        }

        private static int wordEnd(byte[] text, int from, int to) {
            int p = from;
            while (p < to && letterOf(text[p]) > 0) {
                p++;
            }
            return p;
        }

        private static long codeOf(byte[] text, int from, int to) {
            long code = 0;
            for (int i = from; i < to && i - from < WORD_MOST; i++) {
                code = code * LETTER_BASE + letterOf(text[i]);
            }
            return code;
        }

        /** Whether what stands in [ ] of the text taken in is what an action asks for. */
        boolean suits(int theAction) {
            int of = v.actionKind[theAction];
            if (of == NONE || gap[count] == NONE) {
                return of == NONE && gap[count] == NONE;
            }
            if (of == DIRECTED) {
                gapKind[count] = DIRECTED;
                return gapWords == 1 && gapRun[0] == Vocabulary.codeOf("direction");
            }
            int meant = v.meaning(gapRun, 0, gapWords);
            gapKind[count] = meant & 255;
            return meant >> 8 == KINDS && v.isKind(meant & 255, of);
        }

        /** Takes in what was typed; false, if it is no COMMAND. */
        boolean takeTyped(byte[] tape, int length) {
            int p = 0;
            typedCount = 0;
            while (p < length) {
                if (tape[p] == ' ') {
                    p++;
                    continue;
                }
                int behind = wordEnd(tape, p, length);
                if (behind == p || typedCount == TYPED_MOST) {
                    return false;
                }
                typed[typedCount] = behind - p > WORD_MOST ? NO_WORD : codeOf(tape, p, behind);
                typedCount++;
                p = behind;
            }
            return true;
        }

        /** Whether what was typed fits a command; then noun is its noun. */
        boolean fits(int i) {
            int more = typedCount - size[i];
            int first = gap[i] == NONE ? size[i] : gap[i];
            noun = NONE;
            if (gap[i] == NONE ? more != 0 : more < 0 || more >= NAME_MOST) {
                return false;
            }
            for (int k = 0; k < size[i]; k++) {
                if (k != gap[i] && words[i * WORDS + k] != typed[k < first ? k : k + more]) {
                    return false;
                }
            }
            return gap[i] == NONE || fitsGap(gapKind[i], v.meaning(typed, first, first + more + 1));
        }

        private boolean fitsGap(int kind, int meant) {
            noun = meant & 255;
            if (kind == DIRECTED) {
                return meant >> 8 == DIRECTIONS;
            }
            return meant >> 8 == OBJECTS && w.isA(noun, kind);
        }
    }

    /** The tokens of one sentence, and the first fault of the story. */
    private static final class Tokens {
        /** As many as the tape has bytes, its end, and behind them what stands in one [ ] of a text. */
        private static final int ROWS = TAPE_MOST + 130;
        private static final int NUMBER_MOST = 6;
        private static final int TEXT_MOST = 120;

        private final int[] types = new int[ROWS];
        private final int[] places = new int[ROWS];
        /** A word's code, a number, how long a text is. */
        final long[] values = new long[ROWS];
        private final long[] keys = new long[KEY_COUNT];
        byte[] source;
        private int end;
        private int count;
        private int rows;
        int fault;
        int faultPlace;

        Tokens() {
            source = new byte[0];
            int key = 0;
            for (int i = 0; i < KEYS.length() && key < KEY_COUNT; i++) {
                char c = KEYS.charAt(i);
                if (c == ' ') {
                    key++;
                } else {
                    keys[key] = keys[key] * LETTER_BASE + letterOf(c);
                }
            }
        }

        void open(byte[] bytes, int length) {
            source = bytes;
            end = length;
            fault = 0;
            faultPlace = 0;
        }

        /** Notes the first fault, at a row (NONE: at the tape's end); always false, as a check answers then. */
        boolean wrong(int code, int row) {
            if (fault == 0) {
                fault = code;
                faultPlace = row >= 0 && row < rows ? places[row] : end;
            }
            return false;
        }

        int typeAt(int row) {
            return row >= 0 && row < rows ? types[row] : END;
        }

        int placeAt(int row) {
            return row >= 0 && row < rows ? places[row] : end;
        }

        int valueAt(int row) {
            return row >= 0 && row < rows ? (int) values[row] : 0;
        }

        boolean endsBadly() {
            return typeAt(count - 1) == BAD;
        }

        int lastRow() {
            return rows - 1;
        }

        /** The byte behind BLANKS and REMARKS. */
        int skip(int from) {
            int p = from;
            while (p < end) {
                int b = source[p];
                if (b == '[') {
                    int close = closing(p);
                    if (close == NONE) {
                        return p;
                    }
                    p = close + 1;
                } else if (b == 9 || b == 10 || b == 13 || b == 32) {
                    p++;
                } else {
                    return p;
                }
            }
            return end;
        }

        private int closing(int from) {
            for (int p = from; p < end; p++) {
                if (source[p] == ']') {
                    return p;
                }
            }
            return NONE;
        }

        /** Takes in the sentence that begins at a byte, up to what is no token; answers the byte behind it. */
        int takeSentence(int from) {
            int p = from;
            boolean open = true;
            rows = 0;
            while (p < end && open) {
                int behind = scan(p);
                if (behind == NONE) {
                    note(BAD, p, 0);
                    behind = end;
                }
                int last = types[rows - 1];
                p = behind;
                open = last != DOT && last != BAD && !(last == TEXT && rows == 1);
                if (open) {
                    p = skip(p);
                }
            }
            if (open) {
                note(END, end, 0);
            }
            if (types[0] == TEXT && rows == 1) {
                p = takeDotBehindText(p);
            }
            count = rows;
            return p;
        }

        private int takeDotBehindText(int from) {
            int p = skip(from);
            if (p < end && source[p] == '.') {
                note(DOT, p, 0);
                return p + 1;
            }
            return from;
        }

        private void note(int type, int place, long value) {
            if (rows < ROWS) {
                types[rows] = type;
                places[rows] = place;
                values[rows] = value;
                rows++;
            }
        }

        /** Takes in the token at a byte; answers the byte behind it, NONE if there is no token. */
        private int scan(int p) {
            int b = source[p];
            if (letterOf(b) > 0) {
                return scanWord(p, end);
            }
            if (b >= '0' && b <= '9') {
                return scanNumber(p);
            }
            if (b == '"') {
                return scanText(p);
            }
            if (b == '.' || b == ',') {
                note(b == '.' ? DOT : COMMA, p, 0);
                return p + 1;
            }
            if (b == ';' || b == ':') {
                note(b == ';' ? SEMICOLON : COLON, p, 0);
                return p + 1;
            }
            return NONE;
        }

        private int scanWord(int from, int limit) {
            long code = 0;
            int p = from;
            while (p < limit && letterOf(source[p]) > 0) {
                code = p - from < WORD_MOST ? code * LETTER_BASE + letterOf(source[p]) : code;
                p++;
            }
            if (p == from || p - from > WORD_MOST) {
                return NONE;
            }
            note(keyOf(code), from, code);
            return p;
        }

        private int scanNumber(int from) {
            int number = 0;
            int p = from;
            while (p < end && source[p] >= '0' && source[p] <= '9') {
                number = p - from < NUMBER_MOST ? number * 10 + source[p] - '0' : number;
                p++;
            }
            if (p - from > NUMBER_MOST) {
                return NONE;
            }
            note(NUMBER, from, number);
            return p;
        }

        private int scanText(int from) {
            int p = from + 1;
            while (p < end && source[p] != '"') {
                if (source[p] < 32 || source[p] > 126) {
                    return NONE;
                }
                p++;
            }
            if (p >= end || p - from - 1 > TEXT_MOST) {
                return NONE;
            }
            note(TEXT, from, p - from - 1);
            return p + 1;
        }

        /** A key's number; FREE for other words. */
        int keyOf(long code) {
            for (int i = 0; i < KEY_COUNT; i++) {
                if (keys[i] == code) {
                    return i;
                }
            }
            return FREE;
        }

        /** The words between two bytes come behind the sentence; answers the first of them, NONE if not all are words. */
        int takeInside(int from, int to) {
            int p = from;
            rows = count;
            while (p < to) {
                int behind = source[p] == ' ' ? p + 1 : scanWord(p, to);
                if (behind == NONE) {
                    return NONE;
                }
                p = behind;
            }
            note(END, to, 0);
            return count;
        }

        /** The row behind the FREE words that stand at a row. */
        int runEndUpTo(int from, int limit) {
            int row = from;
            while (row >= 0 && row < limit && row < rows && types[row] == FREE) {
                row++;
            }
            return row;
        }

        int runEnd(int from) {
            return runEndUpTo(from, rows);
        }

        /** Whether a RUN begins at a row, of those from another row on. */
        boolean beginsRun(int row, int from) {
            return row >= from && row < rows && types[row] == FREE && (row == from || types[row - 1] != FREE);
        }

        /** A row, or the next one, if there is an ART. */
        int behindArt(int row) {
            return isArt(typeAt(row)) ? row + 1 : row;
        }

        /** Whether the RUN of stands at a row. */
        boolean beginsProperty(int row) {
            return typeAt(row) == KEY_THE && typeAt(row + 1) == FREE && typeAt(runEndUpTo(row + 1, rows)) == KEY_OF;
        }

        int firstOf(int type, int from, int to) {
            for (int row = from; row < to; row++) {
                if (typeAt(row) == type) {
                    return row;
                }
            }
            return NONE;
        }

        /** The first is, are, has, can or relates of the sentence; NONE. */
        int tellingKey() {
            for (int row = 0; row < rows; row++) {
                int type = types[row];
                if (type == KEY_IS || type == KEY_ARE || type == KEY_HAS || type == KEY_CAN || type == KEY_RELATES) {
                    return row;
                }
            }
            return NONE;
        }

        /** The row behind a TEST: behind now it goes up to the PHRASE's end. */
        int testEnd(int from, boolean now) {
            for (int row = from; row < rows; row++) {
                int type = types[row];
                if (type == DOT || type == SEMICOLON || type == END || !now && (type == KEY_AND || type == COLON)) {
                    return row;
                }
            }
            return rows;
        }
    }

    /** Finds the sort of a sentence; where it is of none, at stays on the token that spoils it. */
    private static final class Grammar {
        private final Tokens t;
        int at;
        int sort;
        /** The first is, are, has, can or relates, of the sorts that are told by it. */
        int teller;

        Grammar(Tokens t) {
            this.t = t;
        }

        boolean check() {
            boolean good;
            at = 1;
            switch (t.typeAt(0)) {
                case TEXT:
                    sort = 0;
                    return true;
                case KEY_UNDERSTAND:
                    sort = 1;
                    return take(TEXT) && take(KEY_AS) && takeRun() && take(DOT);
                case KEY_DEFINITION:
                    sort = 2;
                    return take(COLON) && takeArt() && takeRun() && take(KEY_IS) && takeRun() && take(KEY_IF)
                        && takeTests() && take(DOT);
                case KEY_BEFORE:
                    sort = 3;
                    good = takeActing();
                    break;
                case KEY_AFTER:
                    sort = 4;
                    good = takeActing();
                    break;
                case KEY_INSTEAD:
                    sort = 5;
                    good = take(KEY_OF) && takeActing();
                    break;
                case KEY_EVERY:
                    sort = 6;
                    good = take(KEY_TURN);
                    break;
                default:
                    return checkOthers();
            }
            return good && (!take(KEY_WHEN) || takeTests()) && take(COLON) && takePhrases() && take(DOT);
        }

        private boolean checkOthers() {
            if (t.typeAt(0) == KEY_THE && t.typeAt(1) == KEY_VERB) {
                sort = 7;
                at = 2;
                return take(KEY_TO) && takeRun() && take(KEY_MEANS) && take(KEY_THE) && takeRun() && take(KEY_RELATION)
                    && take(DOT);
            }
            if (t.typeAt(0) == KEY_THE && t.typeAt(1) == KEY_PLURAL) {
                sort = 8;
                at = 2;
                return take(KEY_OF) && takeName() && takeBe() && takeRun() && take(DOT);
            }
            at = 0;
            teller = t.tellingKey();
            switch (t.typeAt(teller)) {
                case KEY_IS:
                case KEY_ARE:
                    return checkBe();
                case KEY_HAS:
                    sort = 17;
                    return takeName() && take(KEY_HAS) && takeArt() && takeRun() && take(KEY_CALLED) && takeRun()
                        && take(DOT);
                case KEY_CAN:
                    sort = 18;
                    return takeName() && take(KEY_CAN) && take(KEY_BE) && takeRun() && take(KEY_OR) && takeRun()
                        && take(DOT);
                case KEY_RELATES:
                    sort = 19;
                    return takeName() && take(KEY_RELATES) && takeHowMany() && takeRun() && take(KEY_TO)
                        && takeHowMany() && takeRun() && take(DOT);
                default:
                    sort = 20;
                    return takeLoose(KEY_AND, COMMA) && take(DOT);
            }
        }

        /** 9 to 16 */
        private boolean checkBe() {
            if (t.beginsProperty(0)) {
                sort = 9;
                at = t.runEnd(1) + 1;
                return takeName() && takeBe() && takeWhat() && take(DOT);
            }
            if (!takeList() || !takeBe()) {
                return false;
            }
            int key = t.typeAt(at);
            int next = t.typeAt(at + 1);
            if (key == KEY_A && next == KEY_KIND) {
                sort = 10;
                at += 2;
                return (!take(KEY_OF) || take(KEY_VALUE) || takeName()) && take(DOT);
            }
            if (key == KEY_AN && next == KEY_ACTION) {
                sort = 11;
                at += 2;
                return (!take(KEY_APPLYING) || take(KEY_TO) && take(KEY_ONE) && takeRun()) && take(DOT);
            }
            if (isArt(key)) {
                sort = 12;
                at++;
                return takeRun() && (!atPlace() || takePlace(false)) && take(DOT);
            }
            if (atPlace()) {
                sort = 13;
                return takePlace(false) && take(DOT);
            }
            return checkRuns(take(KEY_NOT) || take(KEY_USUALLY));
        }

        /** 14 to 16; behind not and usually a RUN stands alone. */
        private boolean checkRuns(boolean alone) {
            sort = 15;
            if (!takeRun()) {
                return false;
            }
            if (!alone && take(KEY_OF)) {
                sort = 14;
                return takeName() && take(DOT);
            }
            for (int n = 0; n < TAPE_MOST && !alone && takeBetween(); n++) {
                sort = 16;
                if (!takeRun()) {
                    return false;
                }
            }
            return take(DOT);
        }

        private boolean take(int type) {
            if (t.typeAt(at) != type) {
                return false;
            }
            at++;
            return true;
        }

        private boolean takeArt() {
            if (!isArt(t.typeAt(at))) {
                return false;
            }
            at++;
            return true;
        }

        private boolean takeBe() {
            return take(KEY_IS) || take(KEY_ARE);
        }

        private boolean takeHowMany() {
            return take(KEY_ONE) || take(KEY_VARIOUS);
        }

        private boolean takeRun() {
            int from = at;
            at = t.runEndUpTo(from, TAPE_MOST);
            return at > from;
        }

        private boolean takeName() {
            at = t.behindArt(at);
            return takeRun();
        }

        private boolean takeList() {
            boolean good = takeName();
            for (int n = 0; n < TAPE_MOST && good && takeBetween(); n++) {
                good = takeName();
            }
            return good;
        }

        /** What stands between the NAMES of a LIST. */
        private boolean takeBetween() {
            if (take(COMMA)) {
                take(KEY_AND);
                return true;
            }
            return take(KEY_AND);
        }

        private boolean atPlace() {
            int key = t.typeAt(at);
            return key == KEY_IN || key == KEY_ON || key == KEY_PART || key == KEY_CARRIED || key == KEY_WORN;
        }

        private boolean takePlace(boolean anyThing) {
            int key = t.typeAt(at);
            at++;
            if (key == KEY_PART && !take(KEY_OF) || (key == KEY_CARRIED || key == KEY_WORN) && !take(KEY_BY)) {
                return false;
            }
            return anyThing ? takeThing() : takeName();
        }

        private boolean takeThing() {
            if (take(KEY_IT) || take(KEY_NOUN)) {
                return true;
            }
            boolean the = t.typeAt(at) == KEY_THE;
            at = t.behindArt(at);
            return the && take(KEY_NOUN) || takeRun();
        }

        private boolean takeWhat() {
            return take(NUMBER) || take(TEXT) || takeRun();
        }

        /** FREE words, ARTS and two sorts of tokens more, in any order. */
        private boolean takeLoose(int one, int other) {
            int from = at;
            int type = t.typeAt(at);
            while (at < from + TAPE_MOST && (type == FREE || isArt(type) || type == one || type == other)) {
                at++;
                type = t.typeAt(at);
            }
            return at > from;
        }

        private boolean takeTests() {
            boolean good = takeTest(false);
            for (int n = 0; n < TAPE_MOST && good && take(KEY_AND); n++) {
                good = takeTest(false);
            }
            return good;
        }

        private boolean takeTest(boolean now) {
            if (t.firstOf(KEY_IS, at, t.testEnd(at, now)) == NONE) {
                return takeLoose(KEY_IT, KEY_NOUN);
            }
            if (t.beginsProperty(at)) {
                return takePropertyTest(now);
            }
            if (!takeThing() || !take(KEY_IS)) {
                return false;
            }
            take(KEY_NOT);
            return !now && atPlace() ? takePlace(true) : takeRun();
        }

        private boolean takePropertyTest(boolean now) {
            at = t.runEnd(at + 1) + 1;
            if (!takeThing() || !take(KEY_IS)) {
                return false;
            }
            if (now) {
                return takeWhat();
            }
            if (take(KEY_LESS) || take(KEY_MORE)) {
                return take(KEY_THAN) && take(NUMBER);
            }
            take(KEY_NOT);
            return takeWhat();
        }

        private boolean takeActing() {
            return takeRun() && (!takeArt() || takeRun());
        }

        private boolean takePhrases() {
            boolean good = true;
            for (int n = 0; n < TAPE_MOST && good && (n == 0 || take(SEMICOLON)); n++) {
                good = take(KEY_NOW) ? takeTest(true) : takePhrase();
            }
            return good;
        }

        /** A PHRASE that is not of now. */
        private boolean takePhrase() {
            if (take(KEY_SAY)) {
                return take(TEXT);
            }
            if (take(KEY_MOVE)) {
                return takeThing() && take(KEY_TO) && takeThing();
            }
            if (take(KEY_INCREASE) || take(KEY_DECREASE)) {
                return take(KEY_THE) && takeRun() && take(KEY_OF) && takeThing() && take(KEY_BY) && take(NUMBER);
            }
            if (take(KEY_TRY)) {
                boolean run = takeRun();
                int type = t.typeAt(at);
                boolean thing = isArt(type) || type == KEY_IT || type == KEY_NOUN;
                return run && (!thing || takeThing());
            }
            return take(KEY_STOP);
        }
    }

    /** What the words of a sentence mean: THINGS, ADJECTIVES, DESCRIPTIONS, properties and what they are. */
    private static final class Meanings {
        private static final int DESCRIPTION_WORDS = 6;

        private final Tokens t;
        private final Vocabulary v;
        private final World w;
        /** The key that means the SELF of this sentence, and of what kind that is; NONE without. */
        int selfKey;
        int selfKind;
        /** The THING read last, its kind, its place. */
        int who;
        int whoKind;
        int whoRow;
        /** The ADJECTIVE read last: an adjective, or a value with its property. */
        int met;
        int metProperty;
        /** The WHAT read last. */
        int value;
        int length;
        /** The DESCRIPTION read last: its kind, where that begins, its ADJECTIVES. */
        int described;
        private int describedRow;
        int adjectives;
        final int[] adjective = new int[ADJECTIVES_AHEAD_MOST];
        final int[] property = new int[ADJECTIVES_AHEAD_MOST];
        private final int[] parts = new int[DESCRIPTION_WORDS + 1];

        Meanings(Tokens t, World w) {
            this.t = t;
            this.v = w.v;
            this.w = w;
            startSelf(NONE, NONE);
        }

        void startSelf(int key, int kind) {
            selfKey = key;
            selfKind = kind;
        }

        /** The number of what words mean, if it is of that sort; NONE. */
        int find(int sort, int from, int to) {
            int meant = v.meaning(t.values, from, to);
            return meant >> 8 == sort ? meant & 255 : NONE;
        }

        /** Reads a THING up to a limit; answers the row behind it. There is none such, when who is NONE then. */
        int readThing(int from, int limit) {
            int key = t.typeAt(from);
            int behind = from + 1;
            if (key == KEY_THE && t.typeAt(from + 1) == KEY_NOUN) {
                key = KEY_NOUN;
                behind = from + 2;
            }
            whoRow = from;
            who = NONE;
            whoKind = NONE;
            if (key == KEY_IT || key == KEY_NOUN) {
                who = key == selfKey && selfKind != NONE ? SELF : NONE;
                whoKind = who == SELF ? selfKind : NONE;
                return behind;
            }
            whoRow = isArt(key) ? from + 1 : from;
            behind = t.runEndUpTo(whoRow, limit);
            int meant = v.meaning(t.values, whoRow, behind);
            if (meant >> 8 == OBJECTS) {
                who = meant & 255;
                whoKind = w.kindOf[who];
            }
            return behind;
        }

        /** How many READINGS words have as an ADJECTIVE of a kind. */
        int readAdjective(int kind, int from, int to, boolean valuesToo, boolean definedToo) {
            int meant = v.meaning(t.values, from, to);
            met = meant & 255;
            metProperty = NONE;
            if (meant >> 8 == ADJECTIVES) {
                return v.isKind(kind, v.adjectiveKind[met]) && (definedToo || v.contrary[met] != NONE) ? 1 : 0;
            }
            if (meant >> 8 != VALUES || !valuesToo) {
                return 0;
            }
            int readings = 0;
            int has = v.propertiesOf(kind);
            for (int p = 0; p < PROPERTY_MOST; p++) {
                if ((has >> p & 1) == 1 && v.propertyType[p] == v.valueType[met]) {
                    metProperty = p;
                    readings++;
                }
            }
            return readings;
        }

        /** How many READINGS a RUN has as a DESCRIPTION of a kind or one below (NONE: of any). */
        int countReadings(int from, int to, boolean plural, boolean definedToo, int below) {
            int readings = 0;
            for (int n = 1; n <= NAME_MOST && n <= to - from && to - from <= DESCRIPTION_WORDS; n++) {
                int kind = find(plural ? KIND_PLURALS : KINDS, to - n, to);
                if (kind == NONE || below != NONE && !v.isKind(kind, below)) {
                    continue;
                }
                int ways = countParts(kind, from, to - n, definedToo);
                if (ways > 0) {
                    described = kind;
                    describedRow = to - n;
                    readings += ways;
                }
            }
            return readings;
        }

        /** In how many ways words part into ADJECTIVES of a kind; parts keeps that for each of their ends. */
        private int countParts(int kind, int from, int to, boolean definedToo) {
            int size = to - from;
            if (size < 0 || size > DESCRIPTION_WORDS) {
                return 0;
            }
            parts[size] = 1;
            for (int p = size - 1; p >= 0; p--) {
                parts[p] = 0;
                for (int n = 1; n <= NAME_MOST && p + n <= size; n++) {
                    if (parts[p + n] > 0) {
                        parts[p] += parts[p + n] * readAdjective(kind, from + p, from + p + n, true, definedToo);
                    }
                }
            }
            return parts[0];
        }

        /** Keeps the ADJECTIVES of the one READING that countReadings() has found. */
        void keepReading(int from, boolean definedToo) {
            int size = describedRow - from;
            countParts(described, from, describedRow, definedToo);
            adjectives = 0;
            int p = 0;
            while (p < size && adjectives < ADJECTIVES_AHEAD_MOST) {
                int n = 1;
                while (n < NAME_MOST && p + n < size && (parts[p + n] == 0
                        || readAdjective(described, from + p, from + p + n, true, definedToo) == 0)) {
                    n++;
                }
                readAdjective(described, from + p, from + p + n, true, definedToo);
                adjective[adjectives] = met;
                property[adjectives] = metProperty;
                adjectives++;
                p += n;
            }
        }

        /** The property that a RUN means, of a kind (NONE: any); NONE with a fault. */
        int readProperty(int from, int to, int kind, boolean number) {
            int meant = v.meaning(t.values, from, to);
            int p = meant & 255;
            if (meant >> 8 != PROPERTIES || number && v.propertyType[p] != TYPE_NUMBER
                    || kind != NONE && (v.propertiesOf(kind) >> p & 1) == 0) {
                t.wrong(4, from);
                return NONE;
            }
            return p;
        }

        /** Reads a WHAT as a TYPE is. */
        boolean readWhat(int row, int type) {
            int token = t.typeAt(row);
            length = 0;
            value = t.valueAt(row);
            if (type == TYPE_NUMBER && token == NUMBER) {
                return true;
            }
            if (type == TYPE_TEXT && token == TEXT) {
                length = value;
                value = t.placeAt(row) + 1;
                return true;
            }
            int meant = token == FREE ? v.meaning(t.values, row, t.runEndUpTo(row, row + NAME_MOST + 1)) : NONE;
            if (meant >> 8 == VALUES && v.valueType[meant & 255] == type) {
                value = meant & 255;
                return true;
            }
            return t.wrong(4, row);
        }
    }

    /** Reads definitions and rules: 2 to 6. */
    private static final class RuleReader {
        private final Tokens t;
        private final Vocabulary v;
        private final Meanings m;
        private final Book book;
        /** The row of the rule that is being read, and the token behind what has been read of it. */
        private int[] rule;
        private int headEnd;
        /** How many TESTS were read last. */
        int testCount;

        RuleReader(Tokens t, Meanings m, Book book) {
            this.t = t;
            this.v = book.v;
            this.m = m;
            this.book = book;
            this.rule = book.rule[0];
        }

        /** What stands ahead of the TESTS of a rule. */
        boolean ruleHead(int sort) {
            if (book.rules >= RULE_MOST) {
                return t.wrong(9, 0);
            }
            rule = book.startRule(sortOfRule(sort));
            m.startSelf(KEY_NOUN, NONE);
            headEnd = sort == 3 || sort == 4 ? 1 : 2;
            if (sort != 6) {
                int from = headEnd;
                int to = t.runEnd(from);
                boolean on = isArt(t.typeAt(to));
                headEnd = on ? t.runEnd(to + 1) : to;
                if (!(on ? actingOn(from, to) : actingAlone(from, to))) {
                    return false;
                }
                nameNoun();
            }
            return true;
        }

        private static int sortOfRule(int sort) {
            switch (sort) {
                case 3:
                    return Book.BEFORE;
                case 4:
                    return Book.AFTER;
                case 5:
                    return Book.INSTEAD;
                default:
                    return Book.EVERY_TURN;
            }
        }

        private void nameNoun() {
            int kind = v.actionKind[rule[Book.ACTION]];
            if (rule[Book.OBJECT] != NONE) {
                kind = m.w.kindOf[rule[Book.OBJECT]];
            } else if (rule[Book.KIND] != NONE) {
                kind = rule[Book.KIND];
            }
            m.startSelf(KEY_NOUN, kind == DIRECTED ? NONE : kind);
        }

        /** ACTING with ART RUN. */
        private boolean actingOn(int from, int to) {
            int action = m.find(ACTIONS, from, to);
            int last = to + 1;
            if (action == NONE) {
                return t.wrong(4, from);
            }
            int of = v.actionKind[action];
            if (of < 0) {
                return t.wrong(4, last);
            }
            m.readThing(last, headEnd);
            boolean object = m.who >= 0 && v.isKind(m.whoKind, of);
            int readings = m.countReadings(last, headEnd, false, true, of);
            if (readings + (object ? 1 : 0) != 1) {
                return t.wrong(object || readings > 0 ? 7 : 4, last);
            }
            rule[Book.ACTION] = action;
            if (object) {
                rule[Book.OBJECT] = m.who;
                return true;
            }
            m.keepReading(last, true);
            rule[Book.KIND] = m.described;
            rule[Book.ADJECTIVE_COUNT] = m.adjectives;
            for (int i = 0; i < m.adjectives; i++) {
                Clause c = book.nextClause(Clause.ADJECTIVE);
                c.who = SELF;
                nameAdjective(c, m.adjective[i], m.property[i]);
            }
            return true;
        }

        private static void nameAdjective(Clause c, int met, int property) {
            c.form = property == NONE ? Clause.ADJECTIVE : Clause.VALUE;
            c.which = property == NONE ? met : property;
            c.what = met;
        }

        /** ACTING without ART RUN. */
        private boolean actingAlone(int from, int to) {
            int action = m.find(ACTIONS, from, to);
            int object = NONE;
            int readings = action == NONE ? 0 : 1;
            for (int split = from + 1; split < to; split++) {
                int a = m.find(ACTIONS, from, split);
                int o = m.find(OBJECTS, split, to);
                if (a != NONE && o != NONE && m.w.isA(o, v.actionKind[a])) {
                    action = a;
                    object = o;
                    readings++;
                }
            }
            rule[Book.ACTION] = action;
            rule[Book.OBJECT] = object;
            return readings == 1 || t.wrong(readings == 0 ? 4 : 7, from);
        }

        /** Where the TESTS of the rule begin; NONE without. */
        int whenEnd() {
            return t.typeAt(headEnd) == KEY_WHEN ? headEnd + 1 : NONE;
        }

        /** TESTS from a token on (NONE: there are none). */
        boolean tests(int from) {
            int at = from;
            boolean more = from != NONE;
            testCount = 0;
            for (int n = 0; more; n++) {
                if (n == TEST_MOST) {
                    return t.wrong(9, at);
                }
                headEnd = t.testEnd(at, false);
                if (!test(at, headEnd, book.nextClause(Clause.ADJECTIVE), false)) {
                    return false;
                }
                testCount++;
                more = t.typeAt(headEnd) == KEY_AND;
                at = headEnd + 1;
            }
            return true;
        }

        /** The TESTS read last are those of a DEFINED adjective. */
        void keepTests(int adjective) {
            v.firstTest[adjective] = book.clauseCount - testCount;
            v.testCount[adjective] = testCount;
        }

        private boolean test(int from, int to, Clause c, boolean now) {
            int is = t.firstOf(KEY_IS, from, to);
            if (is == NONE) {
                return saying(from, to, c);
            }
            if (t.beginsProperty(from)) {
                return propertyTest(from, is, c);
            }
            m.readThing(from, to);
            if (m.who == NONE) {
                return t.wrong(4, m.whoRow);
            }
            c.who = m.who;
            c.not = t.typeAt(is + 1) == KEY_NOT;
            int behind = c.not ? is + 2 : is + 1;
            if (t.typeAt(behind) != FREE) {
                return placeTest(behind, to, c);
            }
            int readings = m.readAdjective(m.whoKind, behind, to, !c.not, !now);
            if (readings != 1) {
                return t.wrong(readings == 0 ? 4 : 7, behind);
            }
            nameAdjective(c, m.met, m.metProperty);
            return true;
        }

        private boolean placeTest(int from, int to, Clause c) {
            int key = t.typeAt(from);
            c.form = Clause.PLACED;
            c.what = wayOf(key);
            m.readThing(key == KEY_IN || key == KEY_ON ? from + 1 : from + 2, to);
            c.whom = m.who;
            return m.who != NONE || t.wrong(4, m.whoRow);
        }

        static int wayOf(int key) {
            switch (key) {
                case KEY_IN:
                    return WAY_IN;
                case KEY_ON:
                    return WAY_ON;
                case KEY_PART:
                    return WAY_PART;
                case KEY_CARRIED:
                    return WAY_CARRIED;
                default:
                    return WAY_WORN;
            }
        }

        private boolean propertyTest(int from, int is, Clause c) {
            int of = t.runEnd(from + 1);
            int key = t.typeAt(is + 1);
            boolean compares = key == KEY_LESS || key == KEY_MORE;
            if (!propertyOfThing(from + 1, of, compares, c)) {
                return false;
            }
            if (compares) {
                c.form = key == KEY_LESS ? Clause.LESS : Clause.MORE;
                c.what = t.valueAt(is + 3);
                return true;
            }
            int type = v.propertyType[c.which];
            c.not = key == KEY_NOT;
            if (!m.readWhat(c.not ? is + 2 : is + 1, type)) {
                return false;
            }
            c.form = type == TYPE_TEXT ? Clause.TEXT_IS : Clause.VALUE;
            c.what = m.value;
            c.length = m.length;
            return true;
        }

        /** The RUN of THING, with the of at a row. */
        private boolean propertyOfThing(int from, int of, boolean number, Clause c) {
            m.readThing(of + 1, t.lastRow());
            c.who = m.who;
            c.which = m.readProperty(from, of, m.whoKind, number);
            return c.which != NONE && (m.who != NONE || t.wrong(4, m.whoRow));
        }

        private boolean saying(int from, int to, Clause c) {
            int readings = 0;
            c.form = Clause.RELATED;
            for (int i = from; i < to; i++) {
                int verb = t.typeAt(i) == FREE ? m.find(VERBS_WITH_S, i, i + 1) : NONE;
                if (verb == NONE) {
                    continue;
                }
                int relation = v.verbRelation[verb];
                int ahead = m.readThing(from, i);
                int who = ahead == i && v.isKind(m.whoKind, v.relationFrom[relation]) ? m.who : NONE;
                int behind = m.readThing(i + 1, to);
                if (who != NONE && behind == to && v.isKind(m.whoKind, v.relationTo[relation])) {
                    c.which = relation;
                    c.who = who;
                    c.whom = m.who;
                    readings++;
                }
            }
            return readings == 1 || t.wrong(readings == 0 ? 4 : 7, from);
        }

        /** What stands behind the : of a rule; then the rule is told. */
        boolean rulePhrases() {
            int at = headEnd + 1;
            boolean more = true;
            for (int n = 0; more; n++) {
                if (n == PHRASE_MOST) {
                    return t.wrong(9, at);
                }
                int key = t.typeAt(at);
                int to = t.testEnd(at, true);
                Clause c = book.nextClause(Clause.STOP);
                boolean good;
                if (key == KEY_SAY) {
                    good = sayText(at + 1, c);
                } else if (key == KEY_NOW) {
                    good = test(at + 1, to, c, true);
                } else {
                    good = otherPhrase(key, at + 1, to, c);
                }
                if (!good) {
                    return false;
                }
                rule[Book.PHRASE_COUNT] = n + 1;
                more = t.typeAt(to) == SEMICOLON;
                at = to + 1;
            }
            rule[Book.TEST_COUNT] = testCount;
            book.rules++;
            return true;
        }

        private boolean otherPhrase(int key, int from, int to, Clause c) {
            switch (key) {
                case KEY_MOVE:
                    return movePhrase(from, to, c);
                case KEY_INCREASE:
                case KEY_DECREASE:
                    c.form = Clause.ADD;
                    c.what = t.valueAt(to - 1) * (key == KEY_INCREASE ? 1 : -1);
                    return propertyOfThing(from + 1, t.runEnd(from + 1), true, c);
                case KEY_TRY:
                    c.form = Clause.TRY;
                    int behind = t.runEnd(from);
                    return behind == to ? tryAlone(from, to, c) : tryOn(from, behind, to, c);
                default:
                    return true;
            }
        }

        private boolean movePhrase(int from, int to, Clause c) {
            c.form = Clause.MOVE;
            int behind = m.readThing(from, to);
            if (!v.isKind(m.whoKind, THING)) {
                return t.wrong(4, m.whoRow);
            }
            c.who = m.who;
            m.readThing(behind + 1, to);
            c.whom = m.who;
            return m.who != NONE || t.wrong(4, m.whoRow);
        }

        private boolean tryAlone(int from, int to, Clause c) {
            int readings = 0;
            int action = m.find(ACTIONS, from, to);
            if (action != NONE && v.actionKind[action] == NONE) {
                c.which = action;
                readings++;
            }
            for (int split = from + 1; split < to; split++) {
                int a = m.find(ACTIONS, from, split);
                int o = m.find(OBJECTS, split, to);
                if (a != NONE && o != NONE && v.actionKind[a] >= 0) {
                    c.which = a;
                    c.who = o;
                    readings++;
                }
            }
            return readings == 1 || t.wrong(readings == 0 ? 4 : 7, from);
        }

        private boolean tryOn(int from, int behind, int to, Clause c) {
            c.which = m.find(ACTIONS, from, behind);
            if (c.which == NONE || v.actionKind[c.which] < 0) {
                return t.wrong(4, from);
            }
            m.readThing(behind, to);
            c.who = m.who;
            return m.who != NONE || t.wrong(4, m.whoRow);
        }

        private boolean sayText(int row, Clause c) {
            int from = t.placeAt(row) + 1;
            int to = from + t.valueAt(row);
            int open = NONE;
            c.form = Clause.SAY;
            c.which = book.inserts;
            c.what = from;
            c.length = to - from;
            for (int p = from; p < to; p++) {
                int b = t.source[p];
                if (b == '[' && open != NONE || b == ']' && (open == NONE || !insert(open + 1, p))) {
                    return t.wrong(8, row);
                }
                if (b == '[' || b == ']') {
                    open = b == '[' ? p : NONE;
                }
            }
            return open == NONE || t.wrong(8, row);
        }

        /** What stands in [ ] : a THING that is no it, or the RUN of one. */
        private boolean insert(int from, int to) {
            int at = t.takeInside(from, to);
            int property = NONE;
            if (at == NONE) {
                return false;
            }
            boolean ofIt = t.beginsProperty(at);
            int run = at + 1;
            int of = t.runEnd(run);
            int thing = ofIt ? of + 1 : at;
            if (m.readThing(thing, t.lastRow()) != t.lastRow() || m.who == NONE) {
                return false;
            }
            if (ofIt) {
                property = m.find(PROPERTIES, run, of);
                if (property == NONE || (v.propertiesOf(m.whoKind) >> property & 1) == 0) {
                    return false;
                }
            }
            book.addInsert(m.who, property);
            return true;
        }
    }

    /** Reads a sentence: asks what its words mean, tells its fault or does what it says. */
    private static final class Reader {
        private static final int NO_LIMIT = 1000;

        private final Tokens t;
        private final Grammar grammar;
        private final Vocabulary v;
        private final World w;
        private final Meanings m;
        private final RuleReader rules;
        private final Commands commands;
        /** What was told NEW in this sentence. */
        private final int[] newFrom = new int[OBJECT_MOST];
        private final int[] newTo = new int[OBJECT_MOST];
        private int news;
        /** The first object of the latest sentence of 12 to 15 that had objects. */
        private int subject;
        /** The PLACE that this sentence tells. */
        private int way;
        private int holder;
        private final long[] spelled = new long[NAME_MOST];

        Reader(Tokens t, Grammar grammar, World w, Book book, Commands commands) {
            this.t = t;
            this.grammar = grammar;
            this.w = w;
            this.v = w.v;
            this.commands = commands;
            m = new Meanings(t, w);
            rules = new RuleReader(t, m, book);
            subject = NONE;
        }

        void startAgain() {
            subject = NONE;
        }

        /** A sentence that is told by how it begins; false with a fault. */
        boolean beginSentence() {
            news = 0;
            switch (grammar.sort) {
                case 0:
                    return describe();
                case 1:
                    return understand();
                case 2:
                    return startDefinition() && rules.tests(newTo[0] + 1) && endDefinition();
                case 7:
                    return tellVerb();
                case 8:
                    return tellPlural();
                default:
                    return rules.ruleHead(grammar.sort) && rules.tests(rules.whenEnd()) && rules.rulePhrases();
            }
        }

        /** A sentence that is told by its is, are, has, can or relates, or has none of them; false with a fault. */
        boolean tellSentence() {
            news = 0;
            way = NOWHERE;
            switch (grammar.sort) {
                case 9:
                    return tellProperty();
                case 10:
                    return tellKinds();
                case 11:
                    return tellActions();
                case 12:
                case 13:
                    return tellObjects();
                case 14:
                    return tellWay();
                case 15:
                    return tellsUsually() ? tellUsually() : tellsValues() ? tellValues() : tellPlain();
                case 16:
                    return tellValues();
                case 17:
                    return tellHas();
                case 18:
                    return tellCan();
                case 19:
                    return tellRelation();
                default:
                    return tellLoose();
            }
        }

        /** Whether a RUN of the LIST ahead of is or are begins at a row. */
        private boolean beginsName(int row) {
            return t.beginsRun(row, 0) && row < grammar.teller;
        }

        /** The second RUN of the LIST; NONE. */
        private int secondName() {
            for (int row = t.runEnd(t.behindArt(0)); row < grammar.teller; row++) {
                if (beginsName(row)) {
                    return row;
                }
            }
            return NONE;
        }

        /** Whether words may be told as something NEW, of which there are so many already. */
        private boolean takeNew(int from, int to, int already, int most) {
            if (v.meaning(t.values, from, to) != NONE || to - from > NAME_MOST || wasNew(from, to)) {
                return t.wrong(3, from);
            }
            if (already + news >= most || news >= newFrom.length) {
                return t.wrong(9, from);
            }
            newFrom[news] = from;
            newTo[news] = to;
            news++;
            return true;
        }

        private boolean wasNew(int from, int to) {
            for (int i = 0; i < news; i++) {
                int same = newTo[i] - newFrom[i] == to - from ? 0 : NONE;
                while (same >= 0 && same < to - from) {
                    same = t.values[newFrom[i] + same] == t.values[from + same] ? same + 1 : NONE;
                }
                if (same != NONE) {
                    return true;
                }
            }
            return false;
        }

        private boolean takeObjectOrNew(int from, int kind) {
            int to = t.runEnd(from);
            int meant = v.meaning(t.values, from, to);
            if (meant == NONE) {
                return takeNew(from, to, v.countOf(OBJECTS), OBJECT_MOST);
            }
            return meant >> 8 == OBJECTS && (kind == NONE || w.isA(meant & 255, kind)) || t.wrong(4, from);
        }

        /** The object that words mean, or a new one of a kind. */
        private int objectOrNew(int from, int kind) {
            int to = t.runEnd(from);
            int object = m.find(OBJECTS, from, to);
            if (object == NONE) {
                object = v.tellNew(OBJECTS, t.values, from, to);
                w.makeObject(object, kind);
            }
            return object;
        }

        private boolean describe() {
            if (subject == NONE) {
                return t.wrong(4, 0);
            }
            return w.tellProperty(subject, DESCRIPTION, t.placeAt(0) + 1, t.valueAt(0)) || t.wrong(5, 0);
        }

        private boolean understand() {
            int action = m.find(ACTIONS, 3, t.runEnd(3));
            int from = t.placeAt(1) + 1;
            if (commands.count >= COMMAND_MOST) {
                return t.wrong(9, 1);
            }
            if (!commands.takeText(t.source, from, from + t.valueAt(1)) || action != NONE && !commands.suits(action)) {
                return t.wrong(8, 1);
            }
            if (action == NONE) {
                return t.wrong(4, 3);
            }
            commands.addAs(action);
            return true;
        }

        private boolean startDefinition() {
            int is = t.runEnd(3);
            int kind = m.find(KINDS, 3, is);
            int to = t.runEnd(is + 1);
            m.startSelf(KEY_IT, kind);
            if (kind == NONE) {
                return t.wrong(4, 3);
            }
            return takeNew(is + 1, to, v.countOf(ADJECTIVES), ADJECTIVE_MOST);
        }

        private boolean endDefinition() {
            int adjective = v.tellNew(ADJECTIVES, t.values, newFrom[0], newTo[0]);
            v.adjectiveKind[adjective] = m.selfKind;
            v.contrary[adjective] = NONE;
            rules.keepTests(adjective);
            return true;
        }

        private boolean tellVerb() {
            int to = t.runEnd(3);
            int last = to + 2;
            spelled[0] = t.values[3] * LETTER_BASE + LETTER_S;
            if (to != 4 || v.meaning(spelled, 0, 1) != NONE) {
                return t.wrong(3, 3);
            }
            if (!takeNew(3, to, v.countOf(VERBS), VERB_MOST)) {
                return false;
            }
            int relation = m.find(RELATIONS, last, t.runEnd(last));
            if (relation == NONE) {
                return t.wrong(4, last);
            }
            int verb = v.tellNew(VERBS, t.values, 3, to);
            v.nameIt(VERBS_WITH_S, verb, spelled, 0, 1);
            v.verbRelation[verb] = relation;
            return true;
        }

        private boolean tellPlural() {
            int from = t.behindArt(3);
            int be = t.runEnd(from);
            int meant = v.meaning(t.values, from, be);
            int sort = meant >> 8;
            boolean ofKind = sort == KINDS || sort == KIND_PLURALS;
            if (!ofKind && sort != TYPES && sort != TYPE_PLURALS) {
                return t.wrong(4, from);
            }
            int to = t.runEnd(be + 1);
            if (!takeNew(be + 1, to, 0, NO_LIMIT)) {
                return false;
            }
            v.nameIt(ofKind ? KIND_PLURALS : TYPE_PLURALS, meant & 255, t.values, be + 1, to);
            return true;
        }

        private boolean tellProperty() {
            int of = t.runEnd(1);
            int from = t.behindArt(of + 1);
            int meant = v.meaning(t.values, from, t.runEnd(from));
            int i = meant & 255;
            int row = NONE;
            int kind = NONE;
            if (meant >> 8 == OBJECTS) {
                row = i;
                kind = w.kindOf[i];
            } else if (meant >> 8 == KINDS) {
                row = World.KIND_ROWS + i;
                kind = i;
            }
            int property = m.readProperty(1, of, kind, false);
            if (property == NONE) {
                return false;
            }
            if (row == NONE) {
                return t.wrong(4, from);
            }
            return m.readWhat(grammar.teller + 1, v.propertyType[property])
                && (w.tellProperty(row, property, m.value, m.length) || t.wrong(5, from));
        }

        private boolean tellKinds() {
            int be = grammar.teller;
            boolean ofSome = t.typeAt(be + 3) == KEY_OF;
            boolean types = ofSome && t.typeAt(be + 4) == KEY_VALUE;
            int sort = types ? TYPES : KINDS;
            for (int from = 0; from < be; from++) {
                if (beginsName(from) && !takeNew(from, t.runEnd(from), v.countOf(sort), types ? TYPE_MOST : KIND_MOST)) {
                    return false;
                }
            }
            int above = THING;
            if (ofSome && !types) {
                int from = t.behindArt(be + 4);
                above = m.find(KINDS, from, t.runEnd(from));
                if (above == NONE) {
                    return t.wrong(4, from);
                }
            }
            int first = v.countOf(sort);
            for (int i = 0; i < news; i++) {
                int which = v.tellNew(sort, t.values, newFrom[i], newTo[i]);
                if (!types) {
                    v.kindAbove[which] = above;
                    v.kindHas[which] = 0;
                }
            }
            for (int i = 0; i < news; i++) {
                nameWithS(types ? TYPE_PLURALS : KIND_PLURALS, first + i, newFrom[i], newTo[i]);
            }
            return true;
        }

        private void nameWithS(int sort, int which, int from, int to) {
            int n = to - from;
            for (int i = 0; i < n; i++) {
                spelled[i] = t.values[from + i];
            }
            spelled[n - 1] = spelled[n - 1] * LETTER_BASE + LETTER_S;
            if (v.meaning(spelled, 0, n) == NONE) {
                v.nameIt(sort, which, spelled, 0, n);
            }
        }

        private boolean tellActions() {
            int be = grammar.teller;
            for (int from = 0; from < be; from++) {
                if (beginsName(from) && !takeNew(from, t.runEnd(from), v.countOf(ACTIONS), ACTION_MOST)) {
                    return false;
                }
            }
            int kind = NONE;
            if (t.typeAt(be + 3) == KEY_APPLYING) {
                kind = m.find(KINDS, be + 6, t.runEnd(be + 6));
                if (kind == NONE) {
                    return t.wrong(4, be + 6);
                }
            }
            for (int i = 0; i < news; i++) {
                v.actionKind[v.tellNew(ACTIONS, t.values, newFrom[i], newTo[i])] = kind;
            }
            return true;
        }

        private boolean tellObjects() {
            int be = grammar.teller;
            boolean described = grammar.sort == 12;
            if (!takeObjects()) {
                return false;
            }
            int at = be + 1;
            if (described) {
                at = t.runEnd(be + 2);
                if (!takeDescription(be + 2, at, false)) {
                    return false;
                }
            }
            return (t.typeAt(at) == DOT || takePlace(at)) && doObjects(described);
        }

        private boolean takeObjects() {
            for (int from = 0; from < grammar.teller; from++) {
                if (beginsName(from) && !takeObjectOrNew(from, NONE)) {
                    return false;
                }
            }
            return true;
        }

        private boolean takeDescription(int from, int to, boolean plural) {
            int readings = m.countReadings(from, to, plural, false, NONE);
            if (readings != 1) {
                return t.wrong(readings == 0 ? 4 : 7, from);
            }
            m.keepReading(from, false);
            return true;
        }

        private boolean takePlace(int at) {
            int key = t.typeAt(at);
            int from = t.behindArt(key == KEY_IN || key == KEY_ON ? at + 1 : at + 2);
            way = RuleReader.wayOf(key);
            holder = m.find(OBJECTS, from, t.runEnd(from));
            return holder != NONE && canHold(holder, way) || t.wrong(4, from);
        }

        private boolean canHold(int object, int how) {
            switch (how) {
                case WAY_IN:
                    return w.isA(object, CONTAINER) || w.isA(object, ROOM);
                case WAY_ON:
                    return w.isA(object, SUPPORTER);
                case WAY_PART:
                    return w.isA(object, THING);
                default:
                    return w.isA(object, PERSON);
            }
        }

        /** Does what a DESCRIPTION (if there is one) and a PLACE (likewise) tell of each in the LIST. */
        private boolean doObjects(boolean described) {
            int first = NONE;
            for (int from = 0; from < grammar.teller; from++) {
                if (!beginsName(from)) {
                    continue;
                }
                int object = objectOrNew(from, described ? m.described : THING);
                first = first == NONE ? object : first;
                if (described && !(w.tellKind(object, m.described) && tellAdjectives(object))) {
                    return t.wrong(5, from);
                }
                int fault = way == NOWHERE ? 0 : w.tellPlace(object, way, holder);
                if (fault != 0) {
                    return t.wrong(fault, from);
                }
            }
            subject = first;
            return true;
        }

        private boolean tellAdjectives(int object) {
            for (int i = 0; i < m.adjectives; i++) {
                if (!tellOne(object, m.adjective[i], m.property[i], true)) {
                    return false;
                }
            }
            return true;
        }

        private boolean tellOne(int row, int met, int property, boolean holds) {
            return property == NONE ? w.tellAdjective(row, met, holds) : w.tellProperty(row, property, met, 0);
        }

        private boolean tellWay() {
            int be = grammar.teller;
            int from = t.behindArt(0);
            if (!takeObjectOrNew(from, ROOM)) {
                return false;
            }
            if (secondName() != NONE) {
                return t.wrong(4, secondName());
            }
            int of = t.runEnd(be + 1);
            int direction = m.find(DIRECTIONS, be + 1, of);
            if (direction == NONE) {
                return t.wrong(4, be + 1);
            }
            int last = t.behindArt(of + 1);
            int start = m.find(OBJECTS, last, t.runEnd(last));
            if (start == NONE || !w.isA(start, ROOM)) {
                return t.wrong(4, last);
            }
            subject = objectOrNew(from, ROOM);
            return w.tellWay(start, direction, subject) || t.wrong(5, from);
        }

        private boolean tellsUsually() {
            return t.typeAt(grammar.teller + 1) == KEY_USUALLY;
        }

        /** Whether 15 tells a value of a TYPE. */
        private boolean tellsValues() {
            return t.typeAt(grammar.teller + 1) != KEY_NOT && secondName() == NONE && typeMeant(t.behindArt(0)) != NONE;
        }

        /** The TYPE that words mean, by itself or by its plural, if it can have values. */
        private int typeMeant(int from) {
            int meant = v.meaning(t.values, from, t.runEnd(from));
            boolean type = meant >> 8 == TYPES || meant >> 8 == TYPE_PLURALS;
            return type && (meant & 255) > TYPE_TEXT ? meant & 255 : NONE;
        }

        private boolean tellValues() {
            int name = t.behindArt(0);
            int type = typeMeant(name);
            if (type == NONE || secondName() != NONE) {
                return t.wrong(4, type == NONE ? name : secondName());
            }
            for (int from = grammar.teller + 1; from < t.lastRow(); from++) {
                if (t.beginsRun(from, 0) && !takeNew(from, t.runEnd(from), v.valuesOf(type), VALUE_MOST)) {
                    return false;
                }
            }
            for (int i = 0; i < news; i++) {
                v.valueType[v.tellNew(VALUES, t.values, newFrom[i], newTo[i])] = type;
            }
            return true;
        }

        private boolean tellUsually() {
            int name = t.behindArt(0);
            int kind = m.find(KINDS, name, t.runEnd(name));
            int at = grammar.teller + 2;
            if (kind == NONE || secondName() != NONE) {
                return t.wrong(4, kind == NONE ? name : secondName());
            }
            int readings = m.readAdjective(kind, at, t.runEnd(at), true, false);
            if (readings != 1) {
                return t.wrong(readings == 0 ? 4 : 7, at);
            }
            return tellOne(World.KIND_ROWS + kind, m.met, m.metProperty, true) || t.wrong(5, name);
        }

        /** 15 of objects. */
        private boolean tellPlain() {
            boolean not = t.typeAt(grammar.teller + 1) == KEY_NOT;
            int at = grammar.teller + (not ? 2 : 1);
            int to = t.runEnd(at);
            boolean are = t.typeAt(grammar.teller) == KEY_ARE && !not;
            boolean plural = are && m.countReadings(at, to, true, false, NONE) > 0;
            int sort = v.meaning(t.values, at, to) >> 8;
            boolean word = sort == ADJECTIVES || sort == VALUES;
            if (plural && !word) {
                return takeObjects() && takeDescription(at, to, true) && doObjects(true);
            }
            if (!takeOldObjects()) {
                return false;
            }
            if (plural) {
                return t.wrong(7, at);
            }
            return adjectiveSuits(at, to, not) && doAdjective(at, to, not);
        }

        private boolean takeOldObjects() {
            for (int from = 0; from < grammar.teller; from++) {
                if (beginsName(from) && m.find(OBJECTS, from, t.runEnd(from)) == NONE) {
                    return t.wrong(4, from);
                }
            }
            return true;
        }

        /** Whether a RUN is one ADJECTIVE of the kind of each in the LIST. */
        private boolean adjectiveSuits(int at, int to, boolean not) {
            boolean twice = false;
            for (int from = 0; from < grammar.teller; from++) {
                int object = beginsName(from) ? m.find(OBJECTS, from, t.runEnd(from)) : NONE;
                int readings = object == NONE ? 1 : m.readAdjective(w.kindOf[object], at, to, !not, false);
                if (readings == 0) {
                    return t.wrong(4, at);
                }
                twice = twice || readings > 1;
            }
            return !twice || t.wrong(7, at);
        }

        private boolean doAdjective(int at, int to, boolean not) {
            int first = NONE;
            for (int from = 0; from < grammar.teller; from++) {
                int object = beginsName(from) ? m.find(OBJECTS, from, t.runEnd(from)) : NONE;
                if (object == NONE) {
                    continue;
                }
                first = first == NONE ? object : first;
                m.readAdjective(w.kindOf[object], at, to, !not, false);
                if (!tellOne(object, m.met, m.metProperty, !not)) {
                    return t.wrong(5, from);
                }
            }
            subject = first;
            return true;
        }

        private boolean tellHas() {
            int name = t.behindArt(0);
            int at = grammar.teller + 2;
            int called = t.runEnd(at);
            int last = called + 1;
            int to = t.runEnd(last);
            int kind = m.find(KINDS, name, t.runEnd(name));
            if (kind == NONE) {
                return t.wrong(4, name);
            }
            int type = v.meaning(t.values, at, called);
            if (type >> 8 != TYPES && type >> 8 != TYPE_PLURALS) {
                return t.wrong(4, at);
            }
            int meant = v.meaning(t.values, last, to);
            if (meant == NONE && !takeNew(last, to, v.countOf(PROPERTIES), PROPERTY_MOST)) {
                return false;
            }
            if (meant != NONE && meant >> 8 != PROPERTIES) {
                return t.wrong(4, last);
            }
            int property = meant & 255;
            if (meant == NONE) {
                property = v.tellNew(PROPERTIES, t.values, last, to);
                v.propertyType[property] = type & 255;
            }
            if (v.propertyType[property] != (type & 255)) {
                return t.wrong(5, name);
            }
            v.kindHas[kind] |= 1 << property;
            return true;
        }

        private boolean tellCan() {
            int name = t.behindArt(0);
            int at = grammar.teller + 2;
            int or = t.runEnd(at);
            int to = t.runEnd(or + 1);
            int kind = m.find(KINDS, name, t.runEnd(name));
            if (kind == NONE) {
                return t.wrong(4, name);
            }
            int already = v.countOf(ADJECTIVES);
            if (!takeNew(at, or, already, ADJECTIVE_MOST) || !takeNew(or + 1, to, already, ADJECTIVE_MOST)) {
                return false;
            }
            int first = v.tellNew(ADJECTIVES, t.values, at, or);
            v.tellNew(ADJECTIVES, t.values, or + 1, to);
            v.makeContrary(first, kind);
            return true;
        }

        private boolean tellRelation() {
            int name = t.behindArt(0);
            int at = grammar.teller + 2;
            int to = t.runEnd(at);
            int last = to + 2;
            if (!takeNew(name, t.runEnd(name), v.countOf(RELATIONS), RELATION_MOST)) {
                return false;
            }
            int from = kindMeant(at);
            if (from == NONE) {
                return t.wrong(4, at);
            }
            int other = kindMeant(last);
            if (other == NONE) {
                return t.wrong(4, last);
            }
            int relation = v.tellNew(RELATIONS, t.values, name, t.runEnd(name));
            v.relationFrom[relation] = from;
            v.relationTo[relation] = other;
            v.oneFrom[relation] = t.typeAt(at - 1) == KEY_ONE;
            v.oneTo[relation] = t.typeAt(last - 1) == KEY_ONE;
            return true;
        }

        /** The kind that words mean, by itself or by its plural. */
        private int kindMeant(int from) {
            int meant = v.meaning(t.values, from, t.runEnd(from));
            return meant >> 8 == KINDS || meant >> 8 == KIND_PLURALS ? meant & 255 : NONE;
        }

        /** 20 */
        private boolean tellLoose() {
            int end = t.lastRow();
            boolean many = false;
            int readings = 0;
            int found = NONE;
            int relation = NONE;
            for (int i = 0; i < end; i++) {
                int type = t.typeAt(i);
                many = many || type == KEY_AND || type == COMMA;
                int verb = type == FREE ? m.find(many ? VERBS : VERBS_WITH_S, i, i + 1) : NONE;
                if (verb == NONE) {
                    continue;
                }
                int r = v.verbRelation[verb];
                if (isObjectList(0, i, v.relationFrom[r]) && isObjectList(i + 1, end, v.relationTo[r])) {
                    found = i;
                    relation = r;
                    readings++;
                }
            }
            if (readings != 1) {
                return t.wrong(readings == 0 ? 4 : 7, 0);
            }
            return relateAll(relation, found, end) || t.wrong(5, 0);
        }

        /** Whether the tokens between two are a LIST of NAMES of objects of a kind. */
        private boolean isObjectList(int from, int to, int kind) {
            int at = from;
            while (at < to) {
                at = isArt(t.typeAt(at)) ? at + 1 : at;
                int behind = t.runEndUpTo(at, to);
                int object = m.find(OBJECTS, at, behind);
                if (object == NONE || !w.isA(object, kind)) {
                    return false;
                }
                if (behind == to) {
                    return true;
                }
                int between = t.typeAt(behind);
                if (between != COMMA && between != KEY_AND) {
                    return false;
                }
                at = between == COMMA && t.typeAt(behind + 1) == KEY_AND ? behind + 2 : behind + 1;
            }
            return false;
        }

        private boolean relateAll(int relation, int verb, int end) {
            for (int i = 0; i < verb; i++) {
                int a = t.beginsRun(i, 0) ? m.find(OBJECTS, i, t.runEndUpTo(i, verb)) : NONE;
                for (int k = verb + 1; k < end && a != NONE; k++) {
                    int b = t.beginsRun(k, verb + 1) ? m.find(OBJECTS, k, t.runEnd(k)) : NONE;
                    if (b != NONE && !w.tellRelated(relation, a, b)) {
                        return false;
                    }
                }
            }
            return true;
        }
    }

    /** Runs ACTS, asks TESTS, and keeps OUT. */
    private static final class Turns {
        private static final int OUT_MOST = 2000;
        private static final int PHRASES_A_TURN = 300;
        private static final int WITHIN_MOST = 8;
        private static final int NUMBER_MOST = 999999;
        private static final int NEW_LINE = 10;

        private static final int DONE = 0;
        private static final int STOPPED_BEFORE = 1;
        private static final int INSTEAD = 2;
        private static final int FAILED = 3;
        private static final int STOPPED_AFTER = 4;
        private static final int ENDED = 5;

        private final Vocabulary v;
        private final World w;
        private final Book book;
        final byte[] page = new byte[OUT_MOST];
        int written;
        private int phrases;
        private boolean ended;
        /**
         * While one TEST is asked: for each depth and DEFINED adjective a bit for each object of which it is known whether
         * it holds, and of which it does. Without these, six TESTS in each of eight would be asked six to the eighth times.
         */
        private final int[][] asked = new int[WITHIN_MOST][ADJECTIVE_MOST];
        private final int[][] found = new int[WITHIN_MOST][ADJECTIVE_MOST];

        Turns(World w, Book book) {
            this.v = w.v;
            this.w = w;
            this.book = book;
        }

        void empty() {
            written = 0;
        }

        int takeTurn(int action, int noun) {
            phrases = 0;
            ended = false;
            int result = doAction(action, noun, 1);
            if (!ended) {
                runRules(Book.EVERY_TURN, NONE, NONE, 0);
            }
            return ended ? ENDED : result;
        }

        /** An ACTION that is the so-manieth of those that lie within one another. */
        private int doAction(int action, int noun, int depth) {
            if (runRules(Book.BEFORE, action, noun, depth)) {
                return STOPPED_BEFORE;
            }
            if (ended || runRules(Book.INSTEAD, action, noun, depth)) {
                return INSTEAD;
            }
            if (ended || !succeeds(action, noun)) {
                return FAILED;
            }
            return runRules(Book.AFTER, action, noun, depth) ? STOPPED_AFTER : DONE;
        }

        /** Runs the rules of a sort that apply; whether one of them has ended that: by stop, or as one of instead. */
        private boolean runRules(int sort, int action, int noun, int depth) {
            for (int i = 0; i < book.rules && !ended; i++) {
                int[] rule = book.rule[book.order[i]];
                if (rule[Book.SORT] != sort || !applies(rule, action, noun)) {
                    continue;
                }
                boolean stopped = false;
                int first = rule[Book.FIRST] + rule[Book.ADJECTIVE_COUNT] + rule[Book.TEST_COUNT];
                for (int k = 0; k < rule[Book.PHRASE_COUNT] && !stopped && !ended; k++) {
                    phrases++;
                    ended = phrases > PHRASES_A_TURN;
                    Clause c = book.clauseAt(first + k);
                    stopped = c.form == Clause.STOP;
                    if (!ended && c.form == Clause.SAY) {
                        sayText(c, noun);
                    } else if (!ended) {
                        perform(c, noun, depth);
                    }
                }
                if (!ended && (sort == Book.INSTEAD || stopped && sort != Book.EVERY_TURN)) {
                    return true;
                }
            }
            return false;
        }

        private boolean applies(int[] rule, int action, int noun) {
            if (rule[Book.ACTION] != action || rule[Book.OBJECT] != NONE && rule[Book.OBJECT] != noun
                    || rule[Book.KIND] != NONE && !w.isA(noun, rule[Book.KIND])) {
                return false;
            }
            for (int i = 0; i < rule[Book.ADJECTIVE_COUNT] + rule[Book.TEST_COUNT]; i++) {
                if (!holds(book.clauseAt(rule[Book.FIRST] + i), noun, 0)) {
                    return false;
                }
            }
            return true;
        }

        private static int whoIs(int who, int self) {
            return who == SELF ? self : who;
        }

        /** Whether a TEST holds, with so many DEFINED adjectives around it. */
        private boolean holds(Clause c, int self, int depth) {
            int who = whoIs(c.who, self);
            int whom = whoIs(c.whom, self);
            boolean so;
            switch (c.form) {
                case Clause.ADJECTIVE:
                    so = adjectiveHolds(who, c.which, depth);
                    break;
                case Clause.VALUE:
                    so = w.valueOf(who, c.which) == c.what;
                    break;
                case Clause.LESS:
                    so = w.valueOf(who, c.which) < c.what;
                    break;
                case Clause.MORE:
                    so = w.valueOf(who, c.which) > c.what;
                    break;
                case Clause.TEXT_IS:
                    so = w.sameText(w.valueOf(who, c.which), w.lengthOf(who, c.which), c.what, c.length);
                    break;
                case Clause.PLACED:
                    so = w.way[who] == c.what && w.holder[who] == whom;
                    break;
                default:
                    so = w.isRelated(c.which, who, whom);
                    break;
            }
            return so != c.not;
        }

        /** Asked anew (depth 0), or with so many DEFINED adjectives around it. */
        boolean adjectiveHolds(int object, int adjective, int depth) {
            if (v.contrary[adjective] != NONE) {
                return w.hasAdjective(object, adjective);
            }
            if (depth >= WITHIN_MOST || !v.isKind(w.kindOf[object], v.adjectiveKind[adjective])) {
                return false;
            }
            if (depth == 0) {
                forget();
            }
            int bit = 1 << object;
            if ((asked[depth][adjective] & bit) == 0) {
                asked[depth][adjective] |= bit;
                boolean all = true;
                for (int i = 0; i < v.testCount[adjective] && all; i++) {
                    all = holds(book.clauseAt(v.firstTest[adjective] + i), object, depth + 1);
                }
                found[depth][adjective] |= all ? bit : 0;
            }
            return (found[depth][adjective] & bit) != 0;
        }

        private void forget() {
            for (int depth = 0; depth < WITHIN_MOST; depth++) {
                for (int a = 0; a < ADJECTIVE_MOST; a++) {
                    asked[depth][a] = 0;
                    found[depth][a] = 0;
                }
            }
        }

        private void perform(Clause c, int noun, int depth) {
            int who = whoIs(c.who, noun);
            int whom = whoIs(c.whom, noun);
            switch (c.form) {
                case Clause.ADJECTIVE:
                    w.setAdjective(who, c.which, !c.not);
                    break;
                case Clause.VALUE:
                case Clause.TEXT_IS:
                    w.setProperty(who, c.which, c.what, c.length);
                    break;
                case Clause.RELATED:
                    w.relateNow(c.which, who, whom);
                    break;
                case Clause.MOVE:
                    move(who, whom);
                    break;
                case Clause.ADD:
                    int sum = w.valueOf(who, c.which) + c.what;
                    w.setProperty(who, c.which, Math.max(-NUMBER_MOST, Math.min(NUMBER_MOST, sum)), 0);
                    break;
                case Clause.TRY:
                    int of = v.actionKind[c.which];
                    if (depth < WITHIN_MOST && (of == NONE || w.isA(who, of))) {
                        doAction(c.which, who, depth + 1);
                    }
                    break;
                default:
                    break;
            }
        }

        private void move(int who, int to) {
            if (!w.isA(who, THING) || w.isWithin(to, who)) {
                return;
            }
            int how = WAY_PART;
            if (w.isA(to, ROOM) || w.isA(to, CONTAINER)) {
                how = WAY_IN;
            } else if (w.isA(to, SUPPORTER)) {
                how = WAY_ON;
            } else if (w.isA(to, PERSON)) {
                how = WAY_CARRIED;
            }
            w.place(who, how, to);
        }

        /** Does what an action does; false, if it FAILS. */
        private boolean succeeds(int action, int noun) {
            switch (action) {
                case TAKING:
                    return take(noun);
                case DROPPING:
                    if (!playerHas(noun)) {
                        return false;
                    }
                    w.place(noun, w.way[PLAYER], w.holder[PLAYER]);
                    return true;
                case EXAMINING:
                    writeText(w.valueOf(noun, DESCRIPTION), w.lengthOf(noun, DESCRIPTION));
                    write(NEW_LINE);
                    return true;
                case GOING:
                    return go(noun);
                default:
                    return true;
            }
        }

        private boolean playerHas(int object) {
            return w.holder[object] == PLAYER && (w.way[object] == WAY_CARRIED || w.way[object] == WAY_WORN);
        }

        private boolean take(int object) {
            if (w.hasAdjective(object, FIXED) || playerHas(object) || w.isWithin(PLAYER, object)) {
                return false;
            }
            w.place(object, WAY_CARRIED, PLAYER);
            return true;
        }

        private boolean go(int direction) {
            int room = w.holder[PLAYER];
            if (w.way[PLAYER] != WAY_IN || room < 0 || !v.isKind(w.kindOf[room], ROOM)) {
                return false;
            }
            int to = w.roomBehind(room, direction);
            if (to == NONE) {
                return false;
            }
            w.place(PLAYER, WAY_IN, to);
            return true;
        }

        private void sayText(Clause c, int noun) {
            int next = c.which;
            boolean inside = false;
            for (int i = 0; i < c.length; i++) {
                int b = w.texts[c.what + i];
                if (b == '[') {
                    writeInsert(whoIs(book.thingOfInsert(next), noun), book.propertyOfInsert(next));
                    next++;
                    inside = true;
                } else if (b == ']') {
                    inside = false;
                } else if (!inside) {
                    write(b);
                }
            }
            write(NEW_LINE);
        }

        private void writeInsert(int object, int property) {
            if (property == NONE) {
                writeName(OBJECTS, object);
                return;
            }
            int value = w.valueOf(object, property);
            int type = v.propertyType[property];
            if (type == TYPE_TEXT) {
                writeText(value, w.lengthOf(object, property));
            } else if (type == TYPE_NUMBER) {
                writeNumber(value);
            } else if (value != NONE) {
                writeName(VALUES, value);
            }
        }

        private void writeName(int sort, int which) {
            int k = 0;
            int b = v.nameByte(sort, which, k);
            while (b != NONE && k < NAME_MOST * (WORD_MOST + 2)) {
                write(b);
                k++;
                b = v.nameByte(sort, which, k);
            }
        }

        private void writeNumber(int number) {
            int left = Math.abs(number);
            if (number < 0) {
                write('-');
            }
            int unit = 1;
            while (unit <= left / 10) {
                unit *= 10;
            }
            while (unit > 0) {
                write('0' + left / unit % 10);
                unit /= 10;
            }
        }

        private void writeText(int from, int length) {
            for (int i = 0; i < length; i++) {
                write(w.texts[from + i]);
            }
        }

        private void write(int b) {
            if (written < OUT_MOST) {
                page[written] = (byte) b;
                written++;
            }
        }
    }
}
