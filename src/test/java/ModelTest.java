import java.util.Arrays;
import java.util.Random;

/** Every promise, by chance: long runs of calls, each answered as the model answers it. */
public final class ModelTest {
    private static final int[] WILD = {
        Integer.MIN_VALUE, -1000000, -6, -5, -2, -1, 0, 1, 2, 3, 4, 5, 6, 11, 12, 13, 16, 17, 24, 25,
        31, 32, 60, 97, 126, 127, 1 << 30, Integer.MAX_VALUE - 1, Integer.MAX_VALUE
    };

    /** A call that answers. */
    private interface Answer {
        long get();
    }

    private static String text = "";

    public static void main(String[] args) {
        for (int run = 0; run < 3000; run++) {
            Random random = new Random(run);
            AdventureParser p = new AdventureParser();
            Model m = new Model();
            int calls = 11;
            int nouns = 2 + random.nextInt(5);
            for (int k = random.nextInt(11); k > 0; k--) {
                add(p, m, random, nouns);
            }
            while (calls < 430) {
                calls += step(p, m, random, nouns);
                compare("digest", p::digest, m::digest);
                compare("savedStates", p::savedStates, m::savedStates);
                calls += 2;
            }
        }
        Check.finish("ModelTest");
    }

    private static String answerOf(Answer answer) {
        try {
            return String.valueOf(answer.get());
        } catch (RuntimeException e) {
            return e.getClass().getSimpleName();
        }
    }

    private static void compare(String what, Answer got, Answer want) {
        String gotten = answerOf(got);
        String wanted = answerOf(want);
        boolean same = gotten.equals(wanted);
        Check.due(same ? what : what + " behind '" + text + "' is " + gotten + ", due is " + wanted,
                same, true);
    }

    private static void add(AdventureParser p, Model m, Random random, int nouns) {
        int noun = random.nextInt(nouns);
        int adjective = random.nextInt(4);
        int place = random.nextInt(3) == 0 ? random.nextInt(17) : random.nextInt(2) * 4;
        compare("addObject", () -> p.addObject(noun, adjective, place),
                () -> m.addObject(noun, adjective, place));
    }

    private static int step(AdventureParser p, Model m, Random random, int nouns) {
        switch (random.nextInt(16)) {
            case 0:
                add(p, m, random, nouns);
                return 1;
            case 1:
                return wild(p, m, random);
            case 2:
                compare("undo", p::undo, m::undo);
                return 1;
            case 3:
                text = Texts.nearly(random);
                return type(p, m);
            case 4:
                text = Texts.anyWords(random);
                return words(p, m, random);
            case 5:
                return observe(p, m);
            case 6:
            case 7:
            case 8:
            case 9:
                text = Texts.answer(random);
                return type(p, m);
            default:
                text = Texts.command(random, nouns);
                return type(p, m);
        }
    }

    private static int type(AdventureParser p, Model m) {
        compare("clearBuffer", p::clearBuffer, m::clearBuffer);
        int calls = 1;
        for (String part : text.split(" ", -1)) {
            calls += part(p, m, part, calls > 1);
        }
        return calls + enter(p, m);
    }

    /** Appends a word in one call if it is one, as 512 calls are soon made. */
    private static int part(AdventureParser p, Model m, String part, boolean behindAnother) {
        int word = Arrays.asList(Texts.ALL_WORDS).indexOf(part);
        if (word >= 0) {
            compare("appendWord", () -> p.appendWord(word), () -> m.appendWord(word));
            return 1;
        }
        String letters = behindAnother ? " " + part : part;
        for (int k = 0; k < letters.length(); k++) {
            char c = letters.charAt(k);
            compare("append", () -> p.append(c), () -> m.append(c));
        }
        return letters.length();
    }

    private static int enter(AdventureParser p, Model m) {
        compare("firstError", p::firstError, m::firstError);
        compare("ifEntered", p::ifEntered, m::ifEntered);
        compare("digest after ifEntered", p::digest, m::digest);
        compare("enter", p::enter, m::enter);
        compare("candidates", p::candidates, m::candidates);
        return 5;
    }

    private static int words(AdventureParser p, Model m, Random random) {
        for (int k = 0; k < 6; k++) {
            int word = random.nextInt(25);
            compare("appendWord", () -> p.appendWord(word), () -> m.appendWord(word));
        }
        return 6 + enter(p, m);
    }

    private static int pick(Random random) {
        return WILD[random.nextInt(WILD.length)];
    }

    private static int wild(AdventureParser p, Model m, Random random) {
        int a = pick(random);
        int b = pick(random);
        int c = pick(random);
        compare("addObject", () -> p.addObject(a, b, c), () -> m.addObject(a, b, c));
        compare("moveTo", () -> p.moveTo(a), () -> m.moveTo(a));
        compare("noun", () -> p.noun(a), () -> m.noun(a));
        compare("adjective", () -> p.adjective(b), () -> m.adjective(b));
        compare("place", () -> p.place(c), () -> m.place(c));
        compare("isOpen", () -> p.isOpen(a) ? 1 : 0, () -> m.isOpen(a) ? 1 : 0);
        compare("objectsAt", () -> p.objectsAt(b), () -> m.objectsAt(b));
        compare("suitable", () -> p.suitable(c), () -> m.suitable(c));
        compare("fitting", () -> p.fitting(a, b), () -> m.fitting(a, b));
        compare("append", () -> p.append(a), () -> m.append(a));
        compare("appendWord", () -> p.appendWord(b), () -> m.appendWord(b));
        return 11;
    }

    private static int observe(AdventureParser p, Model m) {
        compare("objects", p::objects, m::objects);
        compare("room", p::room, m::room);
        compare("visible", p::visible, m::visible);
        compare("it", p::it, m::it);
        compare("them", p::them, m::them);
        compare("executed", p::executed, m::executed);
        compare("failed", p::failed, m::failed);
        compare("asked", p::asked, m::asked);
        for (int k = 0; k < m.objects(); k++) {
            int object = k;
            compare("noun", () -> p.noun(object), () -> m.noun(object));
            compare("place", () -> p.place(object), () -> m.place(object));
            compare("isOpen", () -> p.isOpen(object) ? 1 : 0, () -> m.isOpen(object) ? 1 : 0);
        }
        return 8 + 3 * m.objects();
    }

    private ModelTest() {
    }
}
