import java.math.BigInteger;

/** The boundary cases of the promises 1 to 28, a method for each: least, greatest, first beyond. */
public final class BoundsOfPromisesTest {
    private static final int MIN = Integer.MIN_VALUE;
    private static final int MAX = Integer.MAX_VALUE;
    /** Where each word can stand: what is written before it, in the order of the words. */
    private static final String[] BEFORE_WORDS = {
        "take", "take", "take", "take", "take", "take", "take", "take", "take", "take", "", "", "", "",
        "", "", "", "take", "take all", "take key", "put it", "take", "take", "take", "red"
    };

    public static void main(String[] args) {
        newObject();
        nounAndAdjectiveAdded();
        placeAdded();
        containerAdded();
        moveTo();
        objects();
        objectNumbers();
        isOpen();
        objectsAt();
        room();
        visible();
        suitable();
        fitting();
        candidates();
        it();
        them();
        append();
        appendedWords();
        appendedWordsAtTheEnd();
        spaceBeforeWords();
        clearBuffer();
        firstError();
        enter();
        ifEntered();
        counts();
        undoAndSavedStates();
        emptyDigest();
        overflow();
        digestOfTwelve();
        Check.finish("BoundsOfPromisesTest");
    }

    private static void newObject() {
        Check.sentence("Promise 1: Creates four rooms without objects");
        AdventureParser p = new AdventureParser();
        for (int room = 0; room <= 3; room++) {
            Check.due("objects in " + room, p.objectsAt(room), 0);
            p.moveTo(room);
            Check.due("visible in " + room, p.visible(), 0);
        }
        Check.index(p, "a fifth room", () -> p.moveTo(4));
        AdventureParser other = new AdventureParser();
        Check.due("another one knows nothing of it", other.savedStates(), 0);
        Check.due("room of another one", other.room(), 0);
    }

    private static void nounAndAdjectiveAdded() {
        Check.sentence("Promise 2: noun 0 to 5, adjective 0 to 3");
        AdventureParser p = new AdventureParser();
        Check.due("the least of both", p.addObject(0, 0, 0), 0);
        Check.due("the greatest of both", p.addObject(5, 3, 0), 1);
        Check.due("the least noun", p.addObject(0, 3, 0), 2);
        Check.due("the greatest noun", p.addObject(5, 0, 0), 3);
        for (int noun : new int[] {-1, 6, -2, 7, MIN, MAX}) {
            Check.argument(p, "noun " + noun, () -> p.addObject(noun, 1, 0));
        }
        for (int adjective : new int[] {-1, 4, -2, 5, MIN, MAX}) {
            Check.argument(p, "adjective " + adjective, () -> p.addObject(2, adjective, 0));
        }
        Check.due("noun", p.noun(1), 5);
        Check.due("adjective", p.adjective(1), 3);
    }

    private static void placeAdded() {
        Check.sentence("Promise 2: place 0 to 4");
        AdventureParser p = new AdventureParser();
        for (int place = 0; place <= 4; place++) {
            Check.due("place " + place, p.addObject(place, 0, place), place);
            Check.due("its place", p.place(place), place);
        }
        for (int place : new int[] {-1, -2, 5, 7, 8, 9, 10, 17, MIN, MIN + 5, MAX, MAX - 5}) {
            Check.argument(p, "place " + place, () -> p.addObject(0, 1, place));
        }
        Check.due("in the box with the number 1", p.addObject(0, 1, 6), 5);
    }

    private static void containerAdded() {
        Check.sentence("Promise 2: place 5 plus the number of a container that exists");
        AdventureParser p = new AdventureParser();
        Check.argument(p, "place 5 without objects", () -> p.addObject(0, 0, 5));
        Check.argument(p, "a box in itself", () -> p.addObject(1, 0, 5));
        Worlds.add(p, "red box 3");
        Check.due("in the far closed box 0", p.addObject(0, 0, 5), 1);
        Check.argument(p, "in the lamp", () -> p.addObject(0, 1, 6));
        Check.argument(p, "in what does not exist", () -> p.addObject(0, 1, 7));
        Worlds.addThings(p, 8, 0);
        Worlds.add(p, "red bag 4");
        Check.argument(p, "place 16", () -> p.addObject(4, 0, 16));
        Check.due("in the carried closed bag 10", p.addObject(4, 0, 15), 11);
        Check.due("its place", p.place(11), 15);
        p.undo();
        p.undo();
        Check.argument(p, "in the bag that was undone", () -> p.addObject(4, 0, 15));
        Worlds.add(p, "red ball 0");
        Worlds.add(p, "red bag 0");
        Check.state(p, "in the bag 11, as a thirteenth", () -> p.addObject(4, 1, 16));
        Check.argument(p, "in the number 12", () -> p.addObject(4, 1, 17));
    }

    private static void moveTo() {
        Check.sentence("Promise 3: room 0 to 3");
        AdventureParser p = new AdventureParser();
        Check.due("the greatest", p.moveTo(3), 0);
        Check.due("room", p.room(), 3);
        Check.due("the greatest again", p.moveTo(3), 3);
        Check.due("the least", p.moveTo(0), 3);
        Check.due("room", p.room(), 0);
        for (int room : new int[] {-1, 4, MIN, MAX}) {
            Check.index(p, "room " + room, () -> p.moveTo(room));
        }
        Check.due("room", p.room(), 0);
    }

    private static void objects() {
        Check.sentence("Promise 4: Returns the number of objects: 0 to 12");
        AdventureParser p = new AdventureParser();
        for (int count = 0; count <= 12; count++) {
            Check.due("objects", p.objects(), count);
            if (count < 12) {
                Worlds.addThings(p, 1, count % 4);
            }
        }
        for (int left = 11; left >= 6; left--) {
            p.undo();
            Check.due("objects after undo", p.objects(), left);
        }
    }

    private static void outside(AdventureParser p, int object) {
        Check.index(p, "noun " + object, () -> p.noun(object));
        Check.index(p, "adjective " + object, () -> p.adjective(object));
        Check.index(p, "place " + object, () -> p.place(object));
        Check.index(p, "isOpen " + object, () -> p.isOpen(object));
    }

    private static void objectNumbers() {
        Check.sentence("Promises 5 to 8: IndexOutOfBoundsException if there is no such object");
        AdventureParser p = new AdventureParser();
        outside(p, 0);
        outside(p, -1);
        Worlds.add(p, "big bag 3");
        Check.due("noun 0", p.noun(0), 5);
        Check.due("adjective 0", p.adjective(0), 3);
        Check.due("place 0", p.place(0), 3);
        outside(p, 1);
        p.undo();
        outside(p, 0);
        AdventureParser full = new AdventureParser();
        Worlds.addThings(full, 11, 0);
        outside(full, 11);
        Worlds.add(full, "big bag 4");
        Check.due("noun 11", full.noun(11), 5);
        Check.due("adjective 11", full.adjective(11), 3);
        Check.due("place 11", full.place(11), 4);
        Check.due("noun 0", full.noun(0), 0);
        Check.due("adjective 0", full.adjective(0), 0);
        Check.due("place 0", full.place(0), 0);
        for (int object : new int[] {-1, 12, MIN, MAX}) {
            outside(full, object);
        }
    }

    private static void isOpen() {
        Check.sentence("Promise 8: Returns true if it is a container and open: the first and the last");
        AdventureParser p = Worlds.with("red box 0");
        Worlds.addThings(p, 10, 0);
        Worlds.add(p, "red bag 0");
        Check.said(p, "open all", 2);
        for (int k = 0; k < 12; k++) {
            Check.due("isOpen " + k, p.isOpen(k), k == 0 || k == 11);
        }
        Check.said(p, "close box", 1);
        Check.due("isOpen 0", p.isOpen(0), false);
        Check.due("isOpen 11", p.isOpen(11), true);
    }

    private static void objectsAt() {
        Check.sentence("Promise 9: place 0 to 16");
        AdventureParser p = new AdventureParser();
        for (int place : new int[] {-1, 17, MIN, MAX}) {
            Check.index(p, "place " + place, () -> p.objectsAt(place));
        }
        Check.due("place 0", p.objectsAt(0), 0);
        Check.due("place 16", p.objectsAt(16), 0);
        Worlds.addThings(p, 6, 4);
        Worlds.addThings(p, 5, 0);
        Worlds.add(p, "red box 0");
        Check.said(p, "open box", 1);
        Check.said(p, "put all in box", 4);
        int[] due = {6, 0, 0, 0, 2, 0, 0, 0, 0, 0, 0, 0, 0, 0, 0, 0, 4};
        for (int place = 0; place <= 16; place++) {
            Check.due("objects at " + place, p.objectsAt(place), due[place]);
        }
        Check.index(p, "place -1", () -> p.objectsAt(-1));
        Check.index(p, "place 17", () -> p.objectsAt(17));
    }

    private static void room() {
        Check.sentence("Promise 10: Returns the room of the player");
        AdventureParser p = new AdventureParser();
        for (int room = 3; room >= 0; room--) {
            p.moveTo(room);
            Check.due("room", p.room(), room);
        }
        p.undo();
        Check.due("room after undo", p.room(), 1);
    }

    private static void visible() {
        Check.sentence("Promise 11: Returns the visible objects: none, the first, the last, all");
        AdventureParser p = new AdventureParser();
        Check.due("none of none", p.visible(), 0);
        Worlds.addThings(p, 1, 1);
        Check.due("none of one", p.visible(), 0);
        Worlds.addThings(p, 10, 2);
        Worlds.addThings(p, 1, 3);
        p.moveTo(1);
        Check.due("the first", p.visible(), 1);
        p.moveTo(2);
        Check.due("those between", p.visible(), 0x7FE);
        p.moveTo(3);
        Check.due("the last", p.visible(), 0x800);
        Check.said(p, "take all", 1);
        p.moveTo(1);
        Check.said(p, "take all", 1);
        p.moveTo(2);
        Check.due("all", p.visible(), 0xFFF);
    }

    private static void suitable() {
        Check.sentence("Promise 12: verb 0 to 4");
        AdventureParser p = Worlds.with("red key 4", "red box 0", "blue box 0", "blue key 0");
        Check.said(p, "open blue box", 1);
        int[] due = {0b1110, 0b0001, 0b0001, 0b0010, 0b0100};
        for (int verb = 0; verb <= 4; verb++) {
            Check.due("verb " + verb, p.suitable(verb), due[verb]);
        }
        for (int verb : new int[] {-1, 5, 6, 7, MIN, MAX}) {
            Check.index(p, "verb " + verb, () -> p.suitable(verb));
        }
    }

    private static void fitting() {
        Check.sentence("Promise 13: noun 0 to 5, adjective 0 to 3, or NONE; visible or not");
        AdventureParser p = Worlds.with("red lamp 3", "big lamp 0", "red bag 0", "big bag 3",
                "big key 8", "red key 7");
        Check.due("least noun, any adjective", p.fitting(0, Worlds.NO_ADJECTIVE), 0b000011);
        Check.due("least noun, least adjective", p.fitting(0, 0), 0b000001);
        Check.due("least noun, greatest adjective", p.fitting(0, 3), 0b000010);
        Check.due("greatest noun, any adjective", p.fitting(5, Worlds.NO_ADJECTIVE), 0b001100);
        Check.due("greatest noun, least adjective", p.fitting(5, 0), 0b000100);
        Check.due("greatest noun, greatest adjective", p.fitting(5, 3), 0b001000);
        Check.due("in closed containers", p.fitting(2, Worlds.NO_ADJECTIVE), 0b110000);
        Check.due("no such object", p.fitting(1, Worlds.NO_ADJECTIVE), 0);
        for (int noun : new int[] {-1, -2, 6, MIN, MAX}) {
            Check.index(p, "noun " + noun, () -> p.fitting(noun, 0));
            Check.index(p, "noun " + noun + ", any adjective", () -> p.fitting(noun, -1));
        }
        for (int adjective : new int[] {-2, 4, MIN, MAX}) {
            Check.index(p, "adjective " + adjective, () -> p.fitting(0, adjective));
        }
        Check.index(p, "both", () -> p.fitting(6, 4));
        Check.due("without objects", new AdventureParser().fitting(0, -1), 0);
    }

    private static void candidates() {
        Check.sentence("Promise 14: the candidates of the open question; 0 if no question is open");
        AdventureParser p = new AdventureParser();
        Check.due("at first", p.candidates(), 0);
        Worlds.add(p, "red ball 0");
        Worlds.addThings(p, 10, 0);
        Worlds.add(p, "blue ball 0");
        Check.said(p, "take ball", -1);
        Check.due("the first and the last object", p.candidates(), 0x801);
        Check.said(p, "blue", 1);
        Check.due("when it is closed", p.candidates(), 0);
        Check.due("the last object is taken", p.place(11), 4);
        Check.said(p, "take coin", -1);
        Check.due("three coins", p.candidates(), 0x700);
        p.undo();
        Check.due("when it is undone", p.candidates(), 0);
    }

    private static void it() {
        Check.sentence("Promise 15: the last single object; NONE if there is none");
        AdventureParser p = new AdventureParser();
        Check.due("none", p.it(), AdventureParser.NONE);
        Worlds.add(p, "red ball 0");
        Worlds.addThings(p, 10, 0);
        Worlds.add(p, "red bag 0");
        Check.due("none yet", p.it(), -1);
        Check.said(p, "take ball", 1);
        Check.due("the first", p.it(), 0);
        Check.said(p, "take it", -3);
        Check.said(p, "open bag", 1);
        Check.due("the last", p.it(), 11);
        Check.said(p, "close it", 1);
        p.undo();
        p.undo();
        p.undo();
        Check.due("the first again", p.it(), 0);
        p.undo();
        Check.due("none again", p.it(), AdventureParser.NONE);
    }

    private static void them() {
        Check.sentence("Promise 16: the last several objects; 0 if there are none");
        AdventureParser p = new AdventureParser();
        Check.due("none", p.them(), 0);
        Worlds.addThings(p, 12, 0);
        Check.due("none yet", p.them(), 0);
        Check.said(p, "take red lamp", 1);
        Check.due("one is not several", p.them(), 0);
        Check.said(p, "drop it", 1);
        Check.said(p, "take red lamp and big coin", 2);
        Check.due("the first and the last", p.them(), 0x801);
        Check.said(p, "drop all", 2);
        Check.said(p, "take all", 6);
        Check.due("all", p.them(), 0xFFF);
        Check.said(p, "take them", 0);
        Check.due("six of them", p.them(), 0xFC0);
        for (int k = 0; k < 5; k++) {
            p.undo();
        }
        Check.due("none again", p.them(), 0);
    }

    private static void append() {
        Check.sentence("Promise 17: code 32 to 126; unless the buffer contains 60 characters");
        AdventureParser p = new AdventureParser();
        for (int code : new int[] {31, 127, 0, -1, 128, 256 + 97, 65536 + 97, MIN, MAX}) {
            Check.argument(p, "code " + code, () -> p.append(code));
        }
        Check.due("the least", p.append(32), 1);
        Check.due("the greatest", p.append(126), 2);
        for (int length = 3; length <= 60; length++) {
            Check.due("length", p.append(97), length);
        }
        for (int code : new int[] {32, 97, 126}) {
            Check.state(p, "code " + code + " behind 60", () -> p.append(code));
        }
        for (int code : new int[] {31, 127, MIN, MAX}) {
            Check.argument(p, "code " + code + " behind 60", () -> p.append(code));
        }
        Check.due("length", p.clearBuffer(), 60);
        Check.due("the first again", p.append(97), 1);
    }

    private static void appendedWords() {
        Check.sentence("Promise 18: word 0 to 24: each one is appended as it is written");
        AdventureParser p = new AdventureParser();
        for (int word : new int[] {-1, 25, MIN, MAX}) {
            Check.index(p, "word " + word, () -> p.appendWord(word));
        }
        for (int word = 0; word < 25; word++) {
            String letters = Texts.ALL_WORDS[word];
            AdventureParser q = Worlds.with("red key 0", "blue key 0");
            Check.said(q, "take key", -1);
            String before = BEFORE_WORDS[word];
            Check.type(q, before);
            int length = before.isEmpty() ? letters.length() : before.length() + 1 + letters.length();
            Check.due("length with " + letters, q.appendWord(word), length);
            Check.due("firstError with " + letters, q.firstError(), length);
            q.append('~');
            Check.due("firstError behind " + letters, q.firstError(), length);
        }
    }

    private static void appendedWordsAtTheEnd() {
        Check.sentence("Promise 18: unless the buffer would contain more than 60 characters");
        for (int word = 0; word < 25; word++) {
            AdventureParser p = new AdventureParser();
            int letters = Texts.ALL_WORDS[word].length();
            int number = word;
            Worlds.fillBuffer(p, 59 - letters, 'a');
            Check.due("to 60 with a space", p.appendWord(word), 60);
            Worlds.fillBuffer(p, 60 - letters, 'a');
            Check.state(p, "to 61 with a space", () -> p.appendWord(number));
            Worlds.fillBuffer(p, 60 - letters, ' ');
            Check.due("to 60 without a space", p.appendWord(word), 60);
            Check.state(p, "behind 60", () -> p.appendWord(number));
            Check.due("length", p.clearBuffer(), 60);
            Worlds.fillBuffer(p, 61 - letters, ' ');
            Check.state(p, "to 61 without a space", () -> p.appendWord(number));
            Check.due("length", p.clearBuffer(), 61 - letters);
        }
        AdventureParser p = new AdventureParser();
        Worlds.fillBuffer(p, 60, 'a');
        Check.index(p, "word -1 behind 60", () -> p.appendWord(-1));
        Check.index(p, "word 25 behind 60", () -> p.appendWord(25));
        Worlds.fillBuffer(p, 60, ' ');
        Check.state(p, "word 20 behind 60 with a space", () -> p.appendWord(20));
    }

    private static void spaceBeforeWords() {
        Check.sentence("Promise 18: after a space if the buffer is not empty and does not end with one");
        AdventureParser p = new AdventureParser();
        Check.due("into the empty buffer", p.appendWord(10), 4);
        Check.due("behind a word", p.appendWord(17), 8);
        Check.due("firstError", p.firstError(), 8);
        p.append(' ');
        Check.due("behind a space", p.appendWord(18), 12);
        Check.due("firstError", p.firstError(), 12);
        p.append(' ');
        p.append(' ');
        Check.due("behind two spaces", p.appendWord(2), 17);
        Check.due("firstError", p.firstError(), 13);
        Check.due("length", p.clearBuffer(), 17);
        Check.due("into the buffer that was emptied", p.appendWord(15), 4);
        Check.due("east", p.enter(), 1);
        Check.due("into the buffer that was entered", p.appendWord(16), 4);
        Check.due("west", p.enter(), 1);
        p.append(' ');
        Check.due("behind nothing but a space", p.appendWord(15), 5);
        Check.due("firstError", p.firstError(), 0);
    }

    private static void clearBuffer() {
        Check.sentence("Promise 19: Empties the buffer. Returns the length that it had: 0 to 60");
        AdventureParser p = new AdventureParser();
        for (int length : new int[] {0, 1, 59, 60, 0}) {
            Worlds.fillBuffer(p, length, 'a');
            Check.due("length", p.clearBuffer(), length);
            Check.due("length when emptied", p.clearBuffer(), 0);
            Check.due("firstError when emptied", p.firstError(), 0);
        }
        Check.due("saved states", p.savedStates(), 0);
    }

    private static void firstError() {
        Check.sentence("Promise 20: the length of the buffer if there is none (also if not complete)");
        AdventureParser p = new AdventureParser();
        Check.due("empty", p.firstError(), 0);
        Check.type(p, Worlds.LONGEST);
        Check.due("full and complete", p.firstError(), 60);
        Check.type(p, Worlds.LONGEST_BEGINNING);
        Check.due("full and not complete", p.firstError(), 60);
        Check.type(p, Worlds.LONGEST.substring(0, 59) + "~");
        Check.due("the last of 60", p.firstError(), 59);
        Check.type(p, "~");
        Check.due("the only one", p.firstError(), 0);
        Check.type(p, "t");
        Check.due("one letter", p.firstError(), 1);
    }

    private static void enter() {
        Check.sentence("Promise 21: the result, -5 to 6; the buffer is emptied, or stays if it throws");
        AdventureParser p = new AdventureParser();
        Check.argument(p, "enter of the empty buffer", p::enter);
        Worlds.addThings(p, 6, 0);
        Check.said(p, "take all", 6);
        Check.said(p, "take it", -4);
        Check.said(p, "take all", -3);
        Check.said(p, "take ball", -2);
        Check.said(p, "drop lamp", -1);
        Check.type(p, "old key");
        Check.due("an answer with another noun", p.enter(), -5);
        Check.due("length", p.clearBuffer(), 0);
        Check.said(p, "west", 0);
        Check.said(p, "east", 1);
        Worlds.fillBuffer(p, 60, 'a');
        Check.argument(p, "enter of a full buffer", p::enter);
        Check.due("length", p.clearBuffer(), 60);
        Check.unsaid(p, Worlds.LONGEST_BEGINNING);
        Check.said(p, "drop all", 6);
        AdventureParser q = Worlds.with("red lamp 0", "red key 0");
        Check.said(q, Worlds.LONGEST, 2);
    }

    private static void ifEntered() {
        Check.sentence("Promise 22: Predicts what enter() would return. It changes nothing");
        String[] texts = {"take all", "take it", "drop all", "take ball", "take key", "big", "red one",
            "west", "east", "take them", "close box"};
        AdventureParser p = Worlds.with("red key 0", "blue key 0", "red box 0");
        AdventureParser q = Worlds.with("red key 0", "blue key 0", "red box 0");
        int[] due = {3, -4, 3, -2, -1, -5, 1, 0, 1, -3, -2};
        for (int k = 0; k < texts.length; k++) {
            Check.type(p, texts[k]);
            Check.type(q, texts[k]);
            for (int times = 0; times < 2; times++) {
                Check.due("forecast of '" + texts[k] + "'", p.ifEntered(), due[k]);
            }
            Check.due("'" + texts[k] + "'", p.enter(), due[k]);
            Check.due("'" + texts[k] + "' without a forecast", q.enter(), due[k]);
            Check.due("digest", p.digest(), q.digest());
        }
        Check.due("all the same", Trace.toTheEnd(p).equals(Trace.toTheEnd(q)), true);
        Check.argument(p, "ifEntered of the empty buffer", p::ifEntered);
    }

    private static void counts() {
        Check.sentence("Promises 23 to 25: the commands executed and failed, the questions asked");
        AdventureParser p = Worlds.with("red key 0", "blue key 0");
        String[] texts = {"west", "take it", "take ball", "drop all", "take key", "old", "red",
            "take key and key", "drop key and key", "red", "blue"};
        int[] executed = {1, 1, 1, 1, 1, 1, 2, 3, 3, 3, 4};
        int[] failed = {0, 1, 2, 3, 3, 3, 3, 3, 3, 3, 3};
        int[] asked = {0, 0, 0, 0, 1, 1, 1, 1, 2, 3, 3};
        Check.due("executed at first", p.executed(), 0);
        Check.due("failed at first", p.failed(), 0);
        Check.due("asked at first", p.asked(), 0);
        for (int k = 0; k < texts.length; k++) {
            Check.say(p, texts[k]);
            Check.due("executed after '" + texts[k] + "'", p.executed(), executed[k]);
            Check.due("failed after '" + texts[k] + "'", p.failed(), failed[k]);
            Check.due("asked after '" + texts[k] + "'", p.asked(), asked[k]);
        }
        Check.unsaid(p, "take");
        Check.type(p, "take it");
        p.ifEntered();
        Check.due("failed after a forecast", p.failed(), 3);
    }

    private static void undoAndSavedStates() {
        Check.sentence("Promises 26 and 27: the number of saved states, 0 to 6");
        AdventureParser p = new AdventureParser();
        Check.due("at first", p.savedStates(), 0);
        Check.state(p, "undo at first", p::undo);
        for (int k = 1; k <= 8; k++) {
            p.moveTo(k % 4);
            Check.due("saved states", p.savedStates(), Math.min(k, 6));
        }
        for (int left = 5; left >= 0; left--) {
            Check.due("undo", p.undo(), left);
            Check.due("saved states", p.savedStates(), left);
            Check.due("room", p.room(), (left + 2) % 4);
        }
        Check.state(p, "undo at last", p::undo);
        Check.state(p, "undo once more", p::undo);
    }

    /** Counted without any bound, and then cut down to the 64 bits of a long. */
    private static BigInteger exactHash(AdventureParser p) {
        BigInteger hash = BigInteger.valueOf(8144);
        int[] first = {p.objects(), p.room(), p.visible(), p.candidates(), p.it(), p.them(),
            p.executed(), p.failed(), p.asked()};
        for (int v : first) {
            hash = mixed(hash, v);
        }
        for (int k = 0; k < p.objects(); k++) {
            hash = mixed(hash, p.noun(k));
            hash = mixed(hash, p.adjective(k));
            hash = mixed(hash, p.place(k));
            hash = mixed(hash, p.isOpen(k) ? 1 : 0);
        }
        for (int verb = 0; verb <= 4; verb++) {
            hash = mixed(hash, p.suitable(verb));
        }
        return hash;
    }

    private static BigInteger mixed(BigInteger hash, int v) {
        return hash.multiply(BigInteger.valueOf(31)).add(BigInteger.valueOf(v));
    }

    private static void emptyDigest() {
        Check.sentence("Promise 28: The hash starts at 8144: without objects");
        AdventureParser p = new AdventureParser();
        Check.due("digest", p.digest(), exactHash(p).longValue());
        Check.due("digest again", p.digest(), p.digest());
        p.moveTo(3);
        Check.due("digest in the room 3", p.digest(), exactHash(p).longValue());
    }

    private static void overflow() {
        Check.sentence("Promise 28: in long arithmetic with overflow");
        int negative = 0;
        int positive = 0;
        for (int count = 0; count <= 12; count++) {
            AdventureParser p = new AdventureParser();
            for (int k = 0; k < count; k++) {
                Worlds.addThings(p, 1, k % 4);
            }
            BigInteger exact = exactHash(p);
            Check.due("the hash needs more than 64 bits", exact.bitLength() > 64, true);
            Check.due("digest with " + count, p.digest(), exact.longValue());
            negative += p.digest() < 0 ? 1 : 0;
            positive += p.digest() > 0 ? 1 : 0;
        }
        Check.due("some are below 0", negative > 0, true);
        Check.due("some are above 0", positive > 0, true);
    }

    private static void digestOfTwelve() {
        Check.sentence("Promise 28: for each object its noun, adjective, place, and 1 if it is open");
        String[] texts = {"open all", "take red key", "take ball and coin", "drop ball", "red", "red",
            "take them", "east", "drop all but box", "west", "close all"};
        for (int count = 0; count <= texts.length; count++) {
            AdventureParser p = Worlds.with("red box 0", "blue box 4", "old box 3", "red bag 0",
                    "red key 5", "blue key 5", "old key 6", "red ball 0", "blue ball 4", "old ball 2",
                    "red coin 8", "blue coin 0");
            for (int k = 0; k < count; k++) {
                Check.type(p, texts[k]);
                if (p.firstError() == texts[k].length()) {
                    p.enter();
                }
            }
            Check.due("digest after " + count, p.digest(), exactHash(p).longValue());
        }
    }

    private BoundsOfPromisesTest() {
    }
}
