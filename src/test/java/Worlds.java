import java.util.Arrays;

/** Parsers with objects, written as "red lamp 4": adjective, noun and place. */
final class Worlds {
    static final int LAMP = 0;
    static final int BOX = 1;
    static final int KEY = 2;
    static final int COIN = 3;
    static final int BALL = 4;
    static final int BAG = 5;

    static final int RED = 0;
    static final int BLUE = 1;
    static final int OLD = 2;
    static final int BIG = 3;

    static final int CARRIED = 4;
    static final int NO_ADJECTIVE = AdventureParser.NONE;
    /** A complete command of just 60 characters. */
    static final String LONGEST = "take lamp and lamp and lamp and lamp and key and key and key";
    /** 60 characters that begin a longer command, but are none. */
    static final String LONGEST_BEGINNING =
            "take lamp and lamp and lamp and lamp and lamp and lamp and l";

    private Worlds() {
    }

    static AdventureParser with(String... objects) {
        AdventureParser p = new AdventureParser();
        for (int k = 0; k < objects.length; k++) {
            Check.due("number of '" + objects[k] + "'", add(p, objects[k]), k);
        }
        return p;
    }

    static int add(AdventureParser p, String object) {
        String[] words = object.split(" ");
        return p.addObject(Arrays.asList(Texts.NOUNS).indexOf(words[1]),
                Arrays.asList(Texts.ADJECTIVES).indexOf(words[0]), Integer.parseInt(words[2]));
    }

    /** The number of objects that are told in the place: lamps, keys and coins in their order. */
    static void addThings(AdventureParser p, int count, int place) {
        for (int k = 0; k < count; k++) {
            int number = p.objects();
            int kind = number % 12;
            int noun = kind < 4 ? LAMP : kind < 8 ? KEY : COIN;
            Check.due("number of thing " + number, p.addObject(noun, kind % 4, place), number);
        }
    }

    static void fillBuffer(AdventureParser p, int length, char last) {
        p.clearBuffer();
        for (int k = 1; k < length; k++) {
            p.append('a');
        }
        if (length > 0) {
            p.append(last);
        }
    }
}
