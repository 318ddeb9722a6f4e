/** 1 SENTENCES: each sort with and without what may lack; fault 2 at each of its tokens, if another one stands there. */
public final class FormsTest {
    private static final Checks C = new Checks();
    private static final String WORLD = "The hall is a room. A box is a kind of container. A box can be open or shut. Colour is a kind of value."
        + " The colours are red and blue. A box has a colour called tint. A thing has a number called weight. The chest is a box in the hall."
        + " The lamp is a thing. Anna is a person. The shelf is a supporter. Liking relates various people to various things."
        + " The verb to like means the liking relation. Rubbing is an action applying to one box. Singing is an action. ";
    private static final String[] ALONE = {"chest", "the chest", "a chest", "an chest", "some chest"};

    public static void main(String[] args) {
        C.of("1: 0 TEXT");
        form("\"x\"");
        begun();
        be();
        others();
        tests();
        phrases();
        C.end("FormsTest");
    }

    private static void begun() {
        C.of("1: 1 understand TEXT as RUN");
        form("understand \"x\" as singing .");
        C.of("1: 2 definition : ART RUN is RUN if TESTS");
        form("definition : a thing is odd if it is fixed .");
        form("definition : some box is very odd indeed if it is red and it is open .");
        C.of("1: 3 before ACTING (when TESTS) : PHRASES");
        form("before singing : stop .");
        form("before singing when anna is fixed and anna is portable : stop ; stop .");
        C.of("1: 4 after, likewise");
        form("after singing : stop .");
        form("after singing when anna is fixed : stop .");
        C.of("1: 5 instead of, likewise");
        form("instead of singing : stop .");
        form("instead of singing when anna is fixed : stop .");
        C.of("1: 6 every turn (when TESTS) : PHRASES");
        form("every turn : stop .");
        form("every turn when anna is fixed and anna likes anna : stop ; stop .");
        C.of("1: 7 the verb to RUN means the RUN relation");
        form("the verb to love means the liking relation .");
        C.of("1: 8 the plural of NAME BE RUN");
        form("the plural of box is many boxes .");
        form("the plural of the box are boxes .");
        C.of("1: (ACTING: RUN (ART RUN).)");
        form("before taking chest : stop .");
        form("after taking the chest : stop .");
        form("instead of taking an open box : stop .");
        form("before taking some red box when noun is open : stop .");
    }

    private static void be() {
        C.of("1: 9 the RUN of NAME BE WHAT");
        form("the weight of lamp is 5 .");
        form("the tint of a chest are red .");
        form("the description of the box is \"x\" .");
        C.of("1: 10 a kind (of value, or of NAME)");
        form("a crate is a kind .");
        form("crate are a kind of value .");
        form("a crate is a kind of box .");
        form("a crate is a kind of the box .");
        C.of("1: LIST: NAMES with and, with , or with , and between");
        form("crate , the bin , and a tub and pot , tin are a kind .");
        C.of("1: 11 an action (applying to one RUN)");
        form("humming is an action .");
        form("humming , hawing are an action applying to one box .");
        C.of("1: 12 ART RUN (PLACE)");
        form("the bag is a thing .");
        form("the bag and bin are an open box in the hall .");
        form("bag is some thing on shelf .");
        form("bag is the thing part of an lamp .");
        form("bag is a thing carried by anna .");
        form("bag is a thing worn by the anna .");
        C.of("1: 13 PLACE: in, on, part of, carried by or worn by, then NAME");
        form("the bag is in hall .");
        form("bag and bin are on the shelf .");
        form("bag is part of lamp .");
        form("bag is carried by the player .");
        form("bag is worn by anna .");
        C.of("1: 14 RUN of NAME");
        form("the yard is north of the hall .");
        form("yard are up of hall .");
        C.of("1: 15 (not or usually) RUN");
        form("lamp is fixed .");
        form("the lamp and chest are not fixed .");
        form("a box is usually open .");
        form("box are usually red .");
        form("bert , carl are open boxs .");
        form("the colour is dark green .");
        C.of("1: 16 RUN, and RUNS, as in a LIST without ART");
        form("colour is grey and pink .");
        form("the colours are grey , dark red , and violet and pink .");
    }

    private static void others() {
        C.of("1: 17 NAME has ART RUN called RUN");
        form("a box has a number called size .");
        form("box has an colours called weighty thing .");
        C.of("1: 18 NAME can be RUN or RUN");
        form("a box can be very old or new .");
        C.of("1: 19 NAME relates one|various RUN to one|various RUN");
        form("owning relates one person to various things .");
        form("the owning relates various people to one container .");
        C.of("1: 20: FREE words, ARTS, and , in any order, one or more");
        form("anna likes lamp .");
        form("anna and the player like the lamp , some chest , and anna .");
    }

    private static void tests() {
        C.of("1: THING: it, noun, the noun, or NAME");
        form("before taking when noun is fixed and the noun is fixed : stop .");
        for (String name : ALONE) {
            form("every turn when " + name + " is fixed : stop .");
        }
        C.of("1: TEST .. the RUN of THING is (not) WHAT");
        form("every turn when the weight of lamp is 5 : stop .");
        form("every turn when the tint of the chest is not red : stop .");
        form("definition : a thing is odd if the description of it is \"x\" and the description of it is not \"x\" .");
        C.of("1: TEST .. the RUN of THING is less|more than NUMBER");
        form("every turn when the weight of lamp is less than 5 and the weight of lamp is more than 5 : stop .");
        C.of("1: TEST .. else THING is (not) RUN, or THING is (not) PLACE, but with THING in place of its NAME");
        form("definition : a thing is odd if it is not fixed and it is portable .");
        form("before taking when noun is in the hall and lamp is not on noun and the noun is part of the noun : stop .");
        form("definition : a thing is odd if it is not carried by it and anna is worn by it .");
        C.of("1: TEST .. Without: a SAYING: FREE words, ARTS, it, noun, in any order, one or more");
        form("definition : a thing is odd if anna likes it and the anna likes a lamp .");
        form("before taking when anna likes noun : stop .");
        C.of("1: TEST, up to the next and . : or ;");
        form("every turn when anna likes anna and anna is fixed : stop .");
        form("every turn when anna likes anna : now anna is fixed .");
    }

    private static void phrases() {
        C.of("1: PHRASES: PHRASE (; PHRASE ..)");
        form("every turn : stop ; stop ; stop ; stop ; stop ; stop ; stop ; stop .");
        C.of("1: PHRASE .. say TEXT");
        form("every turn : say \"x\" .");
        C.of("1: now and a TEST");
        form("before taking : now the noun is fixed ; now lamp is not fixed ; now the weight of noun is 5 ; now the description of lamp is \"x\" ; now anna likes noun .");
        C.of("1: PHRASE, up to the next ; or .");
        form("every turn : now anna likes anna ; now anna is fixed ; now the weight of lamp is 5 .");
        C.of("1: move THING to THING");
        form("before taking : move the noun to noun ; move lamp to the chest .");
        C.of("1: increase|decrease the RUN of THING by NUMBER");
        form("before taking : increase the weight of the noun by 5 ; decrease the weight of lamp by 999999 .");
        C.of("1: try RUN (THING, that begins with ART, it or noun)");
        form("before taking : try singing ; try taking lamp ; try taking the lamp ; try taking noun ; try taking the noun .");
    }

    /** A good sentence; it must end, and nothing else may stand between its tokens. */
    private static void form(String sentence) {
        String[] tokens = sentence.split(" ");
        C.good(WORLD + sentence, 16);
        int at = WORLD.length();
        for (int i = 0; i < tokens.length; i++) {
            int in = at - WORLD.length();
            boolean compared = i > 0 && (tokens[i - 1].equals("less") || tokens[i - 1].equals("more"));
            C.badAt(2, WORLD + sentence.substring(0, in) + "than " + sentence.substring(in), compared ? at + 5 : at);
            at += tokens[i].length() + 1;
        }
        if (tokens.length > 1) {
            C.badAt(2, WORLD + sentence.substring(0, sentence.length() - 2), WORLD.length() + sentence.length() - 2);
        }
    }
}
