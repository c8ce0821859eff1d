import java.util.Map;
import java.util.function.Consumer;
import java.util.function.Supplier;

/**
 * Every refused call: which exception it throws, also where more than one applies, and that it
 * changes nothing. For the last, two parsers go the same way; just one of them is called in vain;
 * then both must tell the same of themselves, to the last saved state.
 */
public final class RefusedCallsTest {
    private static final int MIN = Integer.MIN_VALUE;
    private static final int MAX = Integer.MAX_VALUE;

    private static final Class<? extends RuntimeException> ARGUMENT = IllegalArgumentException.class;
    private static final Class<? extends RuntimeException> STATE = IllegalStateException.class;
    private static final Class<? extends RuntimeException> INDEX = IndexOutOfBoundsException.class;

    public static void main(String[] args) {
        Check.sentence("A call that throws an exception changes nothing");
        for (Map.Entry<String, Supplier<AdventureParser>> situation : Situations.all().entrySet()) {
            everywhere(situation.getKey(), situation.getValue());
        }
        nothingToEnter();
        nothingToUndo();
        bufferFull();
        Check.sentence("addObject throws IllegalStateException if ..");
        objectsFull();
        sameObject();
        handFull();
        containerFull();
        Check.sentence("If more than one exception applies, the one listed first is thrown");
        argumentBeforeTwelve();
        argumentBeforeTheSame();
        argumentBeforeFullPlaces();
        argumentBeforeEverything();
        severalStates();
        characterBeforeFullBuffer();
        wordBeforeFullBuffer();
        Check.finish("RefusedCallsTest");
    }

    private static void vain(String what, Supplier<AdventureParser> situation,
            Class<? extends RuntimeException> want, Consumer<AdventureParser> call) {
        Trace.same(what + " changes nothing", () -> {
            AdventureParser p = situation.get();
            for (int times = 0; times < 2; times++) {
                Check.thrown(what, want, () -> call.accept(p));
            }
            return p;
        }, situation);
    }

    /** What is refused in every state. */
    private static void everywhere(String where, Supplier<AdventureParser> situation) {
        addedObjects(where + ": addObject ", situation);
        for (int k : new int[] {-1, 12, 13, MIN, MAX}) {
            vain(where + ": noun " + k, situation, INDEX, p -> p.noun(k));
            vain(where + ": adjective " + k, situation, INDEX, p -> p.adjective(k));
            vain(where + ": place " + k, situation, INDEX, p -> p.place(k));
            vain(where + ": isOpen " + k, situation, INDEX, p -> p.isOpen(k));
        }
        for (int room : new int[] {-1, 4, MIN, MAX}) {
            vain(where + ": moveTo " + room, situation, INDEX, p -> p.moveTo(room));
        }
        for (int place : new int[] {-1, 17, MIN, MAX}) {
            vain(where + ": objectsAt " + place, situation, INDEX, p -> p.objectsAt(place));
        }
        for (int verb : new int[] {-1, 5, 6, MIN, MAX}) {
            vain(where + ": suitable " + verb, situation, INDEX, p -> p.suitable(verb));
        }
        for (int[] d : new int[][] {{-1, 0}, {6, 0}, {0, -2}, {0, 4}, {-1, -1}, {MIN, MAX}}) {
            vain(where + ": fitting " + d[0] + " " + d[1], situation, INDEX, p -> p.fitting(d[0], d[1]));
        }
        for (int code : new int[] {31, 127, -1, MIN, MAX}) {
            vain(where + ": append " + code, situation, ARGUMENT, p -> p.append(code));
        }
        for (int word : new int[] {-1, 25, MIN, MAX}) {
            vain(where + ": appendWord " + word, situation, INDEX, p -> p.appendWord(word));
        }
    }

    private static void addedObjects(String where, Supplier<AdventureParser> situation) {
        int[][] wrong = {
            {-1, 1, 1}, {6, 1, 1}, {MIN, 1, 1}, {MAX, 1, 1}, {3, -1, 1}, {3, 4, 1}, {3, MIN, 1},
            {3, MAX, 1}, {3, 1, -1}, {3, 1, 17}, {3, 1, MIN}, {3, 1, MAX}, {1, 3, 5}, {5, 3, 5},
            {1, 3, 17}, {6, 4, 17}, {-1, -1, -1}
        };
        for (int[] w : wrong) {
            vain(where + w[0] + " " + w[1] + " " + w[2], situation, ARGUMENT,
                    p -> p.addObject(w[0], w[1], w[2]));
        }
    }

    private static void textsRefused(String where, Supplier<AdventureParser> situation,
            String... texts) {
        for (String text : texts) {
            Supplier<AdventureParser> typed = () -> Situations.typed(situation.get(), text);
            vain(where + ": enter of '" + text + "'", typed, ARGUMENT, AdventureParser::enter);
            vain(where + ": ifEntered of '" + text + "'", typed, ARGUMENT, AdventureParser::ifEntered);
        }
    }

    private static void nothingToEnter() {
        for (Map.Entry<String, Supplier<AdventureParser>> situation : Situations.all().entrySet()) {
            textsRefused(situation.getKey(), situation.getValue(), "", " ", "~", "take", "take ",
                    "take key and", "put key", "put key in", "east ", " east", "the", "one", "key",
                    "red ", "red one key", "red and", Worlds.LONGEST_BEGINNING);
        }
        textsRefused("not asking", Situations::quiet, "red", "the red", "red one", "the red key");
    }

    private static void nothingToUndo() {
        vain("undo of a new one", AdventureParser::new, STATE, AdventureParser::undo);
        vain("undo behind all", Situations::undoneToTheEnd, STATE, AdventureParser::undo);
    }

    private static void bufferFull() {
        for (int code : new int[] {32, 97, 126}) {
            vain("append " + code, Situations::withFullBuffer, STATE, p -> p.append(code));
        }
        for (int word = 0; word < 25; word++) {
            int number = word;
            vain("appendWord " + word, Situations::withFullBuffer, STATE,
                    p -> p.appendWord(number));
            // The space before a refused word must not stay behind.
            String text = Worlds.LONGEST.substring(0, 60 - Texts.ALL_WORDS[word].length());
            if (!text.endsWith(" ")) {
                vain("appendWord " + word + " behind '" + text + "'",
                        () -> Situations.typed(Situations.asking(), text), STATE,
                        p -> p.appendWord(number));
            }
        }
    }

    private static void objectsFull() {
        for (int place : new int[] {0, 1, 2, 3, 6}) {
            vain("a thirteenth at " + place, Situations::full, STATE,
                    p -> p.addObject(3, 0, place));
        }
        vain("a thirteenth in the twelfth", Situations::full, STATE, p -> p.addObject(3, 0, 16));
        vain("a thirteenth, a box", Situations::full, STATE, p -> p.addObject(1, 3, 0));
    }

    private static void sameObject() {
        for (int place : new int[] {0, 1, 2, 3, 4, 5}) {
            vain("the blue key again, at " + place, Situations::quiet, STATE,
                    p -> p.addObject(2, 1, place));
            vain("the red key again, at " + place, Situations::asking, STATE,
                    p -> p.addObject(2, 0, place));
        }
        vain("the red box again", Situations::quiet, STATE, p -> p.addObject(1, 0, 0));
    }

    private static void handFull() {
        vain("a seventh carried", Situations::fullHandAndBag, STATE, p -> p.addObject(0, 0, 4));
        vain("a seventh carried, a box", Situations::fullHandAndBag, STATE,
                p -> p.addObject(1, 3, 4));
    }

    private static void containerFull() {
        vain("a fifth inside", Situations::fullHandAndBag, STATE, p -> p.addObject(0, 0, 5));
    }

    /** Which arguments are refused whatever the state; in this one the place 4 is full. */
    private static void refusedFirst(String what, Supplier<AdventureParser> situation, int[]... wrong) {
        for (int[] w : wrong) {
            vain(what + ": " + w[0] + " " + w[1] + " " + w[2], situation, ARGUMENT,
                    p -> p.addObject(w[0], w[1], w[2]));
        }
    }

    private static void argumentBeforeTwelve() {
        refusedFirst("a thirteenth", Situations::full, new int[] {6, 0, 0}, new int[] {-1, 0, 0},
                new int[] {3, 4, 0}, new int[] {3, -1, 0}, new int[] {3, 0, -1}, new int[] {3, 0, 17},
                new int[] {3, 0, 7}, new int[] {3, 0, 15}, new int[] {1, 3, 16}, new int[] {5, 3, 6});
    }

    private static void argumentBeforeTheSame() {
        refusedFirst("the same again", Situations::quiet, new int[] {2, 0, -1},
                new int[] {2, 0, 17}, new int[] {2, 0, 6}, new int[] {2, 1, 7}, new int[] {2, 1, 9},
                new int[] {1, 0, 5}, new int[] {1, 0, 10}, new int[] {5, 0, 5}, new int[] {5, 0, 10});
    }

    private static void argumentBeforeFullPlaces() {
        refusedFirst("a seventh carried", Situations::fullHandAndBag, new int[] {6, 0, 4},
                new int[] {-1, 0, 4}, new int[] {0, 4, 4}, new int[] {0, -1, 4});
        refusedFirst("a fifth inside", Situations::fullHandAndBag, new int[] {6, 0, 5},
                new int[] {-1, 0, 5}, new int[] {0, 4, 5}, new int[] {0, -1, 5}, new int[] {1, 0, 5},
                new int[] {5, 1, 5});
    }

    private static void argumentBeforeEverything() {
        refusedFirst("a thirteenth, the same, in a full box", Situations::full,
                new int[] {1, 0, 5}, new int[] {5, 0, 5}, new int[] {1, 1, 5});
        refusedFirst("a seventh and thirteenth", Situations::full, new int[] {6, 0, 4},
                new int[] {0, 4, 4}, new int[] {-1, -1, 4});
        refusedFirst("the same inside the full bag", Situations::fullHandAndBag,
                new int[] {5, 0, 5});
    }

    private static void severalStates() {
        vain("the same, thirteenth, seventh", Situations::full, STATE, p -> p.addObject(2, 0, 4));
        vain("the same, thirteenth, fifth", Situations::full, STATE, p -> p.addObject(4, 0, 5));
        vain("the same, seventh", Situations::fullHandAndBag, STATE, p -> p.addObject(2, 0, 4));
        vain("the same, fifth", Situations::fullHandAndBag, STATE, p -> p.addObject(4, 0, 5));
    }

    private static void characterBeforeFullBuffer() {
        for (int code : new int[] {31, 127, 0, -1, MIN, MAX}) {
            vain("append " + code + " behind 60", Situations::withFullBuffer, ARGUMENT,
                    p -> p.append(code));
        }
    }

    private static void wordBeforeFullBuffer() {
        for (int word : new int[] {-1, 25, MIN, MAX}) {
            vain("appendWord " + word + " behind 60", Situations::withFullBuffer, INDEX,
                    p -> p.appendWord(word));
        }
    }

    private RefusedCallsTest() {
    }
}
