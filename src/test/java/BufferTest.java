/** Promises 17 to 19: append, appendWord and clearBuffer. */
public final class BufferTest {
    private static final String[] WORDS = {
        "lamp", "box", "key", "coin", "ball", "bag", "red", "blue", "old", "big", "take", "drop",
        "put", "open", "close", "east", "west", "all", "but", "and", "in", "the", "it", "them", "one"
    };

    public static void main(String[] args) {
        characters();
        fullBuffer();
        wordLengths();
        wordsAsCharacters();
        wordSpaces();
        wordsIntoFullBuffer();
        notUndoable();
        Check.finish("BufferTest");
    }

    private static void characters() {
        AdventureParser p = new AdventureParser();
        for (int code : new int[] {31, 127, 0, -1, Integer.MIN_VALUE, Integer.MAX_VALUE, 65536 + 97}) {
            Check.argument(p, "append " + code, () -> p.append(code));
        }
        Check.due("append 32", p.append(32), 1);
        Check.due("append 126", p.append(126), 2);
        Check.due("append 97", p.append(97), 3);
        Check.due("clearBuffer", p.clearBuffer(), 3);
        Check.due("clearBuffer again", p.clearBuffer(), 0);
        Check.due("append after clearing", p.append('e'), 1);
    }

    private static void fullBuffer() {
        AdventureParser p = new AdventureParser();
        for (int k = 1; k <= 60; k++) {
            Check.due("append " + k, p.append('e'), k);
        }
        Check.state(p, "append 61", () -> p.append('e'));
        Check.argument(p, "append a wrong code to a full buffer", () -> p.append(31));
        Check.due("clearBuffer of 60", p.clearBuffer(), 60);
        Check.due("append after clearing 60", p.append('e'), 1);
    }

    private static void wordLengths() {
        AdventureParser p = new AdventureParser();
        for (int word = 0; word < WORDS.length; word++) {
            Check.due("appendWord " + word, p.appendWord(word), WORDS[word].length());
            p.clearBuffer();
        }
        for (int word : new int[] {-1, 25, Integer.MIN_VALUE, Integer.MAX_VALUE}) {
            Check.index(p, "appendWord " + word, () -> p.appendWord(word));
        }
    }

    /** What appendWord() writes is read as the same letters from append(). */
    private static void wordsAsCharacters() {
        for (int word = 0; word < WORDS.length; word++) {
            AdventureParser p = new AdventureParser();
            p.addObject(0, 0, 0);
            p.addObject(0, 1, 0);
            Check.said(p, "take lamp", -1);
            String before = beginningFor(word);
            Check.type(p, before);
            int length = before.length() + WORDS[word].length();
            Check.due("length with word " + word, p.appendWord(word), length);
            Check.due("errors with word " + word, p.firstError(), length);
        }
    }

    private static String beginningFor(int word) {
        if (word >= 10 && word <= 16) {
            return "";
        }
        switch (word) {
            case 18:
                return "put all ";
            case 19:
                return "put key ";
            case 20:
                return "put it ";
            case 24:
                return "red ";
            default:
                return "take ";
        }
    }

    private static void wordSpaces() {
        AdventureParser p = new AdventureParser();
        Check.due("take", p.appendWord(10), 4);
        Check.due("take all", p.appendWord(17), 8);
        Check.due("a space", p.append(' '), 9);
        Check.due("take all but", p.appendWord(18), 12);
        Check.due("firstError", p.firstError(), 12);
        p.clearBuffer();
        Check.due("a space first", p.append(' '), 1);
        Check.due("a word behind it", p.appendWord(10), 5);
        Check.due("firstError of a space first", p.firstError(), 0);
        p.clearBuffer();
        Check.due("a letter first", p.append('x'), 1);
        Check.due("a word behind the letter", p.appendWord(10), 6);
    }

    private static void fill(AdventureParser p, int length) {
        p.clearBuffer();
        for (int k = 0; k < length; k++) {
            p.append('a');
        }
    }

    private static void wordsIntoFullBuffer() {
        AdventureParser p = new AdventureParser();
        fill(p, 55);
        Check.due("lamp to 60", p.appendWord(0), 60);
        Check.state(p, "in behind 60", () -> p.appendWord(20));
        Check.index(p, "word 25 behind 60", () -> p.appendWord(25));
        fill(p, 56);
        Check.state(p, "lamp to 61", () -> p.appendWord(0));
        Check.due("key to 60", p.appendWord(2), 60);
        fill(p, 55);
        Check.state(p, "close to 61", () -> p.appendWord(14));
        p.append(' ');
        Check.state(p, "close to 61 behind a space", () -> p.appendWord(14));
        Check.due("lamp to 60 behind a space", p.appendWord(0), 60);
        fill(p, 58);
        Check.state(p, "in to 61", () -> p.appendWord(20));
        p.append(' ');
        Check.state(p, "in to 61 behind a space", () -> p.appendWord(20));
        Check.due("length is 59", p.clearBuffer(), 59);
    }

    private static void notUndoable() {
        AdventureParser p = new AdventureParser();
        p.addObject(0, 0, 0);
        p.addObject(0, 1, 0);
        Check.said(p, "take lamp", -1);
        p.appendWord(10);
        p.append(' ');
        p.clearBuffer();
        Check.due("saved states", p.savedStates(), 3);
        Check.due("the question stays open", p.candidates(), 0b11);
        p.appendWord(15);
        p.undo();
        Check.due("undo leaves the buffer", p.clearBuffer(), 4);
    }

    private BufferTest() {
    }
}
