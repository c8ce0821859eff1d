import java.util.function.Consumer;
import java.util.function.Supplier;

/**
 * Every refused call: which exception it throws, also where more than one applies, and that it
 * changes nothing. For the last, two parsers go the same way; just one of them is called in vain;
 * then both must tell the same of themselves, to the last saved state.
 */
public final class RefusedCallsTest {
    private static final int MIN = Integer.MIN_VALUE;
    private static final int MAX = Integer.MAX_VALUE;

    private static final Class<? extends RuntimeException> ARGUMENT = IllegalArgumentException.class;
    private static final Class<? extends RuntimeException> STATE = IllegalStateException.class;
    private static final Class<? extends RuntimeException> INDEX = IndexOutOfBoundsException.class;

    public static void main(String[] args) {
        Check.sentence("A call that throws an exception changes nothing");
        everywhere("a new one", AdventureParser::new);
        everywhere("a quiet one", RefusedCallsTest::quiet);
        everywhere("an asking one", RefusedCallsTest::asking);
        everywhere("one with a full buffer", RefusedCallsTest::withFullBuffer);
        everywhere("one with 12 objects", RefusedCallsTest::full);
        everywhere("one with undone states", RefusedCallsTest::undone);
        nothingToEnter();
        nothingToUndo();
        bufferFull();
        Check.sentence("addObject throws IllegalStateException if ..");
        objectsFull();
        sameObject();
        handFull();
        containerFull();
        Check.sentence("If more than one exception applies, the one listed first is thrown");
        argumentBeforeTwelve();
        argumentBeforeTheSame();
        argumentBeforeFullPlaces();
        argumentBeforeEverything();
        severalStates();
        characterBeforeFullBuffer();
        wordBeforeFullBuffer();
        Check.finish("RefusedCallsTest");
    }

    private static AdventureParser quiet() {
        AdventureParser p = Worlds.with("red box 0", "red key 5", "blue key 4", "red bag 3");
        Check.say(p, "open box");
        Check.say(p, "take red key");
        Check.type(p, "take the ");
        return p;
    }

    private static AdventureParser asking() {
        AdventureParser p = Worlds.with("red key 0", "blue key 0", "red box 4", "red lamp 0");
        Check.say(p, "take box and lamp");
        Check.say(p, "take lamp");
        Check.say(p, "take key and key");
        Check.say(p, "blue");
        Check.due("candidates", p.candidates(), 0b0011);
        Check.type(p, "the red key");
        return p;
    }

    private static AdventureParser withFullBuffer() {
        AdventureParser p = Worlds.with("red key 0", "red lamp 0", "blue lamp 3", "red box 1");
        Check.type(p, Worlds.LONGEST);
        return p;
    }

    /** The box 0 and the hand are full, the bag 1 holds one object; the box 2 is 12th. */
    private static AdventureParser full() {
        AdventureParser p = Worlds.with("red box 4", "red bag 4", "red ball 5", "blue ball 5",
                "old ball 5", "big ball 5", "red lamp 6", "red key 4", "blue key 4", "old key 4");
        Worlds.add(p, "big key 4");
        Worlds.add(p, "blue box 0");
        Check.due("objects", p.objects(), 12);
        Check.due("objects carried", p.objectsAt(4), 6);
        Check.due("objects in the box", p.objectsAt(5), 4);
        Check.type(p, "east");
        return p;
    }

    /** Behind undo() there are free rows for saved states, which no call may take in vain. */
    private static AdventureParser undone() {
        AdventureParser p = quiet();
        Check.say(p, "drop key");
        p.moveTo(2);
        p.moveTo(1);
        p.undo();
        p.undo();
        Check.due("candidates", p.candidates(), 0b0110);
        Check.type(p, "blue");
        return p;
    }

    private static void vain(String what, Supplier<AdventureParser> situation,
            Class<? extends RuntimeException> want, Consumer<AdventureParser> call) {
        AdventureParser p = situation.get();
        AdventureParser untouched = situation.get();
        for (int times = 0; times < 2; times++) {
            Check.thrown(what, want, () -> call.accept(p));
        }
        String told = Trace.toTheEnd(p);
        String due = Trace.toTheEnd(untouched);
        Check.due(what + " changes nothing: " + told + "; due is " + due, told.equals(due), true);
    }

    /** What is refused in every state. */
    private static void everywhere(String where, Supplier<AdventureParser> situation) {
        addedObjects(where + ": addObject ", situation);
        for (int k : new int[] {-1, 12, 13, MIN, MAX}) {
            vain(where + ": noun " + k, situation, INDEX, p -> p.noun(k));
            vain(where + ": adjective " + k, situation, INDEX, p -> p.adjective(k));
            vain(where + ": place " + k, situation, INDEX, p -> p.place(k));
            vain(where + ": isOpen " + k, situation, INDEX, p -> p.isOpen(k));
        }
        for (int room : new int[] {-1, 4, MIN, MAX}) {
            vain(where + ": moveTo " + room, situation, INDEX, p -> p.moveTo(room));
        }
        for (int place : new int[] {-1, 17, MIN, MAX}) {
            vain(where + ": objectsAt " + place, situation, INDEX, p -> p.objectsAt(place));
        }
        for (int verb : new int[] {-1, 5, 6, MIN, MAX}) {
            vain(where + ": suitable " + verb, situation, INDEX, p -> p.suitable(verb));
        }
        for (int[] d : new int[][] {{-1, 0}, {6, 0}, {0, -2}, {0, 4}, {-1, -1}, {MIN, MAX}}) {
            vain(where + ": fitting " + d[0] + " " + d[1], situation, INDEX, p -> p.fitting(d[0], d[1]));
        }
        for (int code : new int[] {31, 127, -1, MIN, MAX}) {
            vain(where + ": append " + code, situation, ARGUMENT, p -> p.append(code));
        }
        for (int word : new int[] {-1, 25, MIN, MAX}) {
            vain(where + ": appendWord " + word, situation, INDEX, p -> p.appendWord(word));
        }
    }

    private static void addedObjects(String where, Supplier<AdventureParser> situation) {
        int[][] wrong = {
            {-1, 1, 1}, {6, 1, 1}, {MIN, 1, 1}, {MAX, 1, 1}, {3, -1, 1}, {3, 4, 1}, {3, MIN, 1},
            {3, MAX, 1}, {3, 1, -1}, {3, 1, 17}, {3, 1, MIN}, {3, 1, MAX}, {1, 3, 5}, {5, 3, 5},
            {1, 3, 17}, {6, 4, 17}, {-1, -1, -1}
        };
        for (int[] w : wrong) {
            vain(where + w[0] + " " + w[1] + " " + w[2], situation, ARGUMENT,
                    p -> p.addObject(w[0], w[1], w[2]));
        }
    }

    private static AdventureParser typed(AdventureParser p, String text) {
        Check.type(p, text);
        return p;
    }

    private static void nothingToEnter() {
        String[] texts = {"", " ", "take", "take ", "take key and", "put key", "put key in", "red",
            "the red", "east ", " east", "~", Worlds.LONGEST_BEGINNING};
        for (String text : texts) {
            vain("enter of '" + text + "'", () -> typed(quiet(), text), ARGUMENT,
                    AdventureParser::enter);
            vain("ifEntered of '" + text + "'", () -> typed(quiet(), text), ARGUMENT,
                    AdventureParser::ifEntered);
        }
        for (String text : new String[] {"", "the", "one", "key", "red ", "red one key", "red and"}) {
            vain("enter of '" + text + "' when asked", () -> typed(asking(), text), ARGUMENT,
                    AdventureParser::enter);
            vain("ifEntered of '" + text + "' when asked", () -> typed(asking(), text), ARGUMENT,
                    AdventureParser::ifEntered);
        }
    }

    private static AdventureParser undoneToTheEnd() {
        AdventureParser p = quiet();
        while (p.savedStates() > 0) {
            p.undo();
        }
        return p;
    }

    private static void nothingToUndo() {
        vain("undo of a new one", AdventureParser::new, STATE, AdventureParser::undo);
        vain("undo behind all", RefusedCallsTest::undoneToTheEnd, STATE, AdventureParser::undo);
    }

    private static void bufferFull() {
        for (int code : new int[] {32, 97, 126}) {
            vain("append " + code, RefusedCallsTest::withFullBuffer, STATE, p -> p.append(code));
        }
        for (int word = 0; word < 25; word++) {
            int number = word;
            vain("appendWord " + word, RefusedCallsTest::withFullBuffer, STATE,
                    p -> p.appendWord(number));
            // The space before a refused word must not stay behind.
            String text = Worlds.LONGEST.substring(0, 60 - Texts.ALL_WORDS[word].length());
            if (!text.endsWith(" ")) {
                vain("appendWord " + word + " behind '" + text + "'",
                        () -> typed(withFullBuffer(), text), STATE, p -> p.appendWord(number));
            }
        }
    }

    private static void objectsFull() {
        for (int place : new int[] {0, 1, 2, 3, 6}) {
            vain("a thirteenth at " + place, RefusedCallsTest::full, STATE,
                    p -> p.addObject(3, 0, place));
        }
        vain("a thirteenth in the twelfth", RefusedCallsTest::full, STATE, p -> p.addObject(3, 0, 16));
        vain("a thirteenth, a box", RefusedCallsTest::full, STATE, p -> p.addObject(1, 3, 0));
    }

    private static void sameObject() {
        for (int place : new int[] {0, 1, 2, 3, 4, 5}) {
            vain("the blue key again, at " + place, RefusedCallsTest::quiet, STATE,
                    p -> p.addObject(2, 1, place));
            vain("the red key again, at " + place, RefusedCallsTest::asking, STATE,
                    p -> p.addObject(2, 0, place == 5 ? 7 : place));
        }
        vain("the red box again", RefusedCallsTest::quiet, STATE, p -> p.addObject(1, 0, 0));
    }

    /** The hand and the bag 0 are full, with 11 objects in all; a question is open. */
    private static AdventureParser fullHandAndBag() {
        AdventureParser p = Worlds.with("red bag 4", "red ball 5", "blue ball 5", "old ball 5",
                "big ball 5", "red key 4", "blue key 4", "old key 4", "big key 4", "red coin 4",
                "blue coin 0");
        Check.due("objects carried", p.objectsAt(4), 6);
        Check.due("objects in the bag", p.objectsAt(5), 4);
        Check.say(p, "drop key");
        Check.due("candidates", p.candidates(), 0b00111100000);
        Check.type(p, "old");
        return p;
    }

    private static void handFull() {
        vain("a seventh carried", RefusedCallsTest::fullHandAndBag, STATE, p -> p.addObject(0, 0, 4));
        vain("a seventh carried, a box", RefusedCallsTest::fullHandAndBag, STATE,
                p -> p.addObject(1, 3, 4));
    }

    private static void containerFull() {
        vain("a fifth inside", RefusedCallsTest::fullHandAndBag, STATE, p -> p.addObject(0, 0, 5));
    }

    /** Which arguments are refused whatever the state; in this one the place 4 is full. */
    private static void refusedFirst(String what, Supplier<AdventureParser> situation, int[]... wrong) {
        for (int[] w : wrong) {
            vain(what + ": " + w[0] + " " + w[1] + " " + w[2], situation, ARGUMENT,
                    p -> p.addObject(w[0], w[1], w[2]));
        }
    }

    private static void argumentBeforeTwelve() {
        refusedFirst("a thirteenth", RefusedCallsTest::full, new int[] {6, 0, 0}, new int[] {-1, 0, 0},
                new int[] {3, 4, 0}, new int[] {3, -1, 0}, new int[] {3, 0, -1}, new int[] {3, 0, 17},
                new int[] {3, 0, 7}, new int[] {3, 0, 15}, new int[] {1, 3, 16}, new int[] {5, 3, 6});
    }

    private static void argumentBeforeTheSame() {
        refusedFirst("the same again", RefusedCallsTest::quiet, new int[] {2, 0, -1},
                new int[] {2, 0, 17}, new int[] {2, 0, 6}, new int[] {2, 1, 7}, new int[] {2, 1, 9},
                new int[] {1, 0, 5}, new int[] {1, 0, 8}, new int[] {5, 0, 5}, new int[] {5, 0, 8});
    }

    private static void argumentBeforeFullPlaces() {
        refusedFirst("a seventh carried", RefusedCallsTest::fullHandAndBag, new int[] {6, 0, 4},
                new int[] {-1, 0, 4}, new int[] {0, 4, 4}, new int[] {0, -1, 4});
        refusedFirst("a fifth inside", RefusedCallsTest::fullHandAndBag, new int[] {6, 0, 5},
                new int[] {-1, 0, 5}, new int[] {0, 4, 5}, new int[] {0, -1, 5}, new int[] {1, 0, 5},
                new int[] {5, 1, 5});
    }

    private static void argumentBeforeEverything() {
        refusedFirst("a thirteenth, the same, in a full box", RefusedCallsTest::full,
                new int[] {1, 0, 5}, new int[] {5, 0, 5}, new int[] {1, 1, 5});
        refusedFirst("a seventh and thirteenth", RefusedCallsTest::full, new int[] {6, 0, 4},
                new int[] {0, 4, 4}, new int[] {-1, -1, 4});
        refusedFirst("the same inside the full bag", RefusedCallsTest::fullHandAndBag,
                new int[] {5, 0, 5});
    }

    private static void severalStates() {
        vain("the same, thirteenth, seventh", RefusedCallsTest::full, STATE, p -> p.addObject(2, 0, 4));
        vain("the same, thirteenth, fifth", RefusedCallsTest::full, STATE, p -> p.addObject(4, 0, 5));
        vain("the same, seventh", RefusedCallsTest::fullHandAndBag, STATE, p -> p.addObject(2, 0, 4));
        vain("the same, fifth", RefusedCallsTest::fullHandAndBag, STATE, p -> p.addObject(4, 0, 5));
    }

    private static void characterBeforeFullBuffer() {
        for (int code : new int[] {31, 127, 0, -1, MIN, MAX}) {
            vain("append " + code + " behind 60", RefusedCallsTest::withFullBuffer, ARGUMENT,
                    p -> p.append(code));
        }
    }

    private static void wordBeforeFullBuffer() {
        for (int word : new int[] {-1, 25, MIN, MAX}) {
            vain("appendWord " + word + " behind 60", RefusedCallsTest::withFullBuffer, INDEX,
                    p -> p.appendWord(word));
        }
    }

    private RefusedCallsTest() {
    }
}
