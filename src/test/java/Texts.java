import java.util.Random;
import java.util.regex.Matcher;
import java.util.regex.Pattern;

/** The forms of commands and answers once more, as patterns, and texts made by chance from a seed. */
final class Texts {
    static final String[] NOUNS = {"lamp", "box", "key", "coin", "ball", "bag"};
    static final String[] ADJECTIVES = {"red", "blue", "old", "big"};
    static final String[] VERBS = {"take", "drop", "put", "open", "close", "east", "west"};
    static final String[] ALL_WORDS = {
        "lamp", "box", "key", "coin", "ball", "bag", "red", "blue", "old", "big", "take", "drop",
        "put", "open", "close", "east", "west", "all", "but", "and", "in", "the", "it", "them", "one"
    };

    private static final String NOUN = "(?:lamp|box|key|coin|ball|bag)";
    private static final String ADJECTIVE = "(?:red|blue|old|big)";
    private static final String DESCRIPTION = "(?:the )?(?:" + ADJECTIVE + " )?" + NOUN;
    private static final String LIST = DESCRIPTION + "(?: and " + DESCRIPTION + ")*";
    private static final String OBJECTS = "(?:all(?: but " + LIST + ")?|it|them|" + LIST + ")";
    private static final String COMMAND = "(?:east|west|(?:take|drop|open|close) " + OBJECTS
            + "|put " + OBJECTS + " in (?:it|" + DESCRIPTION + "))";
    private static final String ANSWER = "(?:the )?" + ADJECTIVE + "(?: (?:one|" + NOUN + "))?";
    private static final Pattern COMMANDS = Pattern.compile(COMMAND);
    private static final Pattern ANSWERS = Pattern.compile(ANSWER);

    private Texts() {
    }

    static boolean isCommand(String text) {
        return COMMANDS.matcher(text).matches();
    }

    static boolean isAnswer(String text) {
        return ANSWERS.matcher(text).matches();
    }

    private static boolean canGoOn(Pattern pattern, String text) {
        Matcher matcher = pattern.matcher(text);
        return matcher.matches() || matcher.hitEnd();
    }

    static int firstError(String text, boolean asking) {
        for (int end = 1; end <= text.length(); end++) {
            String beginning = text.substring(0, end);
            if (!canGoOn(COMMANDS, beginning) && !(asking && canGoOn(ANSWERS, beginning))) {
                return end - 1;
            }
        }
        return text.length();
    }

    static String pick(Random random, String[] words) {
        return words[random.nextInt(words.length)];
    }

    static String description(Random random, int nouns) {
        StringBuilder text = new StringBuilder();
        if (random.nextInt(4) == 0) {
            text.append("the ");
        }
        if (random.nextInt(2) == 0) {
            text.append(pick(random, ADJECTIVES)).append(' ');
        }
        return text.append(NOUNS[random.nextInt(nouns)]).toString();
    }

    private static String list(Random random, int nouns) {
        StringBuilder text = new StringBuilder(description(random, nouns));
        while (random.nextInt(3) == 0) {
            text.append(" and ").append(description(random, nouns));
        }
        return text.toString();
    }

    private static String objects(Random random, int nouns) {
        switch (random.nextInt(8)) {
            case 0:
                return "all";
            case 1:
                return "all but " + list(random, nouns);
            case 2:
                return "it";
            case 3:
                return "them";
            default:
                return list(random, nouns);
        }
    }

    static String command(Random random, int nouns) {
        String verb = pick(random, VERBS);
        if (verb.equals("east") || verb.equals("west")) {
            return random.nextInt(3) == 0 ? verb : "take " + objects(random, nouns);
        }
        String text = verb + " " + objects(random, nouns);
        if (!verb.equals("put")) {
            return text;
        }
        return text + " in " + (random.nextInt(5) == 0 ? "it" : description(random, nouns));
    }

    static String answer(Random random) {
        String text = (random.nextInt(4) == 0 ? "the " : "") + pick(random, ADJECTIVES);
        switch (random.nextInt(4)) {
            case 0:
                return text + " one";
            case 1:
                return text + " " + pick(random, NOUNS);
            default:
                return text;
        }
    }

    /** A text that is spoilt at one place, or made of words in any order. */
    static String nearly(Random random) {
        StringBuilder text = new StringBuilder(
                random.nextInt(4) == 0 ? answer(random) : command(random, NOUNS.length));
        int at = random.nextInt(text.length());
        switch (random.nextInt(5)) {
            case 0:
                text.deleteCharAt(at);
                break;
            case 1:
                text.insert(at, (char) (random.nextInt(95) + 32));
                break;
            case 2:
                text.setCharAt(at, (char) (random.nextInt(95) + 32));
                break;
            case 3:
                text.setLength(at);
                break;
            default:
                text.append(' ').append(pick(random, ALL_WORDS));
                break;
        }
        return text.toString();
    }

    static String anyWords(Random random) {
        StringBuilder text = new StringBuilder(pick(random, ALL_WORDS));
        while (random.nextInt(4) != 0) {
            text.append(' ').append(pick(random, ALL_WORDS));
        }
        return text.toString();
    }
}
