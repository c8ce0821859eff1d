/** Promises 26 to 28: undo, the saved states and the digest. */
public final class UndoTest {
    public static void main(String[] args) {
        nothingSaved();
        whatIsSaved();
        sixStates();
        everythingComesBack();
        emptyDigest();
        writtenDigest();
        digestSeesEverything();
        Check.finish("UndoTest");
    }

    private static void nothingSaved() {
        AdventureParser p = new AdventureParser();
        Check.state(p, "undo of a new one", p::undo);
        p.moveTo(2);
        Check.due("undo", p.undo(), 0);
        Check.due("room", p.room(), 0);
        Check.state(p, "undo again", p::undo);
    }

    private static void whatIsSaved() {
        AdventureParser p = new AdventureParser();
        p.moveTo(0);
        Check.due("saved by moveTo that changes nothing", p.savedStates(), 1);
        p.addObject(0, 0, 0);
        Check.due("saved by addObject", p.savedStates(), 2);
        Check.say(p, "west");
        Check.due("saved by a walk without a room", p.savedStates(), 3);
        Check.say(p, "open lamp");
        Check.due("saved by a failure", p.savedStates(), 4);
        p.appendWord(15);
        p.append(' ');
        p.clearBuffer();
        p.firstError();
        p.visible();
        p.digest();
        Check.due("saved by nothing else", p.savedStates(), 4);
        Check.due("undo", p.undo(), 3);
        Check.due("failed", p.failed(), 0);
        Check.due("undo", p.undo(), 2);
        Check.due("executed", p.executed(), 0);
        Check.due("undo", p.undo(), 1);
        Check.due("objects", p.objects(), 0);
        Check.due("undo", p.undo(), 0);
    }

    private static void sixStates() {
        AdventureParser p = new AdventureParser();
        int[] rooms = {1, 2, 3, 2, 1, 0, 3, 1, 2};
        for (int k = 0; k < rooms.length; k++) {
            p.moveTo(rooms[k]);
            Check.due("saved states", p.savedStates(), Math.min(k + 1, 6));
        }
        for (int left = 5; left >= 0; left--) {
            Check.due("undo", p.undo(), left);
            Check.due("room with " + left + " left", p.room(), rooms[left + 2]);
        }
        Check.state(p, "undo of a discarded state", p::undo);
        p.moveTo(1);
        p.moveTo(2);
        Check.due("undo", p.undo(), 1);
        Check.due("room", p.room(), 1);
        p.moveTo(0);
        Check.due("undo", p.undo(), 1);
        Check.due("undo", p.undo(), 0);
        Check.due("room", p.room(), 3);
    }

    private static void everythingComesBack() {
        AdventureParser p = new AdventureParser();
        p.addObject(1, 0, 0);
        p.addObject(2, 0, 0);
        p.addObject(2, 1, 4);
        long[] digests = new long[7];
        String[] texts = {"open box", "take key", "drop all", "take key", "blue", "put it in box"};
        for (int k = 0; k < texts.length; k++) {
            digests[k] = p.digest();
            Check.say(p, texts[k]);
        }
        digests[6] = p.digest();
        for (int k = 5; k >= 0; k--) {
            Check.due("digests differ at " + k, digests[k] != digests[k + 1], true);
            Check.due("undo", p.undo(), k);
            Check.due("digest before '" + texts[k] + "'", p.digest(), digests[k]);
        }
    }

    private static long hash(long... values) {
        long hash = 8144;
        for (long v : values) {
            hash = 31 * hash + v;
        }
        return hash;
    }

    private static void emptyDigest() {
        Check.due("digest of a new one", new AdventureParser().digest(),
                hash(0, 0, 0, 0, -1, 0, 0, 0, 0, 0, 0, 0, 0, 0));
    }

    private static void writtenDigest() {
        AdventureParser p = new AdventureParser();
        p.addObject(1, 3, 1);
        p.addObject(2, 2, 4);
        Check.say(p, "east");
        Check.say(p, "open box");
        Check.say(p, "take lamp");
        Check.due("digest of two objects", p.digest(),
                hash(2, 1, 3, 0, 0, 0, 2, 1, 0, 1, 3, 1, 1, 2, 2, 4, 0, 1, 2, 2, 0, 1));
        Check.say(p, "take all");
        Check.say(p, "drop all");
        p.addObject(2, 3, 1);
        Check.say(p, "take key");
        Check.due("digest with a question", p.digest(), hash(3, 1, 7, 6, 0, 3, 4, 1, 1,
                1, 3, 1, 1, 2, 2, 1, 0, 2, 3, 1, 0, 7, 0, 0, 0, 1));
    }

    private static void digestSeesEverything() {
        AdventureParser p = new AdventureParser();
        long before = p.digest();
        Check.due("digest twice", p.digest(), before);
        p.appendWord(15);
        Check.due("digest without the buffer", p.digest(), before);
        p.moveTo(0);
        Check.due("digest without the saved states", p.digest(), before);
        p.enter();
        Check.due("digest differs", p.digest() != before, true);
    }

    private UndoTest() {
    }
}
