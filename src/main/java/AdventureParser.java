/** A command parser for a text adventure: the document's promises say what every call does. */
public final class AdventureParser {
    public static final int NONE = -1;

    private static final int MOST_OBJECTS = 12;
    private static final int MOST_CARRIED = 6;
    private static final int MOST_INSIDE = 4;
    private static final int MOST_CHARACTERS = 60;
    private static final int MOST_SAVED = 6;

    private static final int NOUNS = 6;
    private static final int ADJECTIVES = 4;
    private static final int BOX = 1;
    private static final int BAG = 5;

    private static final int ROOMS = 4;
    private static final int CARRIED = 4;
    private static final int FIRST_INSIDE = 5;
    private static final int PLACES = FIRST_INSIDE + MOST_OBJECTS;

    private static final int TAKE = 0;
    private static final int DROP = 1;
    private static final int PUT = 2;
    private static final int OPEN = 3;
    private static final int CLOSE = 4;
    private static final int EAST = 5;
    private static final int WEST = 6;

    private static final int WORDS = 25;
    private static final int FIRST_ADJECTIVE = 6;
    private static final int FIRST_VERB = 10;
    private static final int ALL = 17;
    private static final int BUT = 18;
    private static final int AND = 19;
    private static final int IN = 20;
    private static final int THE = 21;
    private static final int IT = 22;
    private static final int THEM = 23;
    private static final int ONE = 24;

    private static final int QUESTION = -1;
    private static final int NOTHING_FITS = -2;
    private static final int NOTHING_SUITABLE = -3;
    private static final int NOTHING_MEANT = -4;
    private static final int NOT_ANSWERED = -5;

    private static final int WORD_WIDTH = 5;

    /** One row a word, in the order of the word numbers, filled up with spaces. */
    private static final char[] LETTERS = {
        'l', 'a', 'm', 'p', ' ',
        'b', 'o', 'x', ' ', ' ',
        'k', 'e', 'y', ' ', ' ',
        'c', 'o', 'i', 'n', ' ',
        'b', 'a', 'l', 'l', ' ',
        'b', 'a', 'g', ' ', ' ',
        'r', 'e', 'd', ' ', ' ',
        'b', 'l', 'u', 'e', ' ',
        'o', 'l', 'd', ' ', ' ',
        'b', 'i', 'g', ' ', ' ',
        't', 'a', 'k', 'e', ' ',
        'd', 'r', 'o', 'p', ' ',
        'p', 'u', 't', ' ', ' ',
        'o', 'p', 'e', 'n', ' ',
        'c', 'l', 'o', 's', 'e',
        'e', 'a', 's', 't', ' ',
        'w', 'e', 's', 't', ' ',
        'a', 'l', 'l', ' ', ' ',
        'b', 'u', 't', ' ', ' ',
        'a', 'n', 'd', ' ', ' ',
        'i', 'n', ' ', ' ', ' ',
        't', 'h', 'e', ' ', ' ',
        'i', 't', ' ', ' ', ' ',
        't', 'h', 'e', 'm', ' ',
        'o', 'n', 'e', ' ', ' ',
    };

    private final Buffer buffer = new Buffer();
    private final Reading reading = new Reading();
    private final State state = new State();
    private final State forecast = new State();
    /** The rows are made once and filled again and again, so that no call makes an object. */
    private final State[] saved = new State[MOST_SAVED];
    private int savedCount;
    private int nextSaved;

    public AdventureParser() {
        for (int k = 0; k < saved.length; k++) {
            saved[k] = new State();
        }
    }

    // ---- objects

    public int addObject(int noun, int adjective, int place)
            throws IllegalArgumentException, IllegalStateException {
        World world = state.world;
        if (!isNoun(noun) || !isAdjective(adjective) || !world.hasPlace(place)) {
            throw new IllegalArgumentException();
        }
        if (isContainerNoun(noun) && place >= FIRST_INSIDE) {
            throw new IllegalArgumentException();
        }
        if (world.count >= MOST_OBJECTS || world.isFull(place)
                || world.fittingSet(noun, adjective) != 0) {
            throw new IllegalStateException();
        }
        save();
        state.closeQuestion();
        return world.add(noun, adjective, place);
    }

    public int moveTo(int room) throws IndexOutOfBoundsException {
        if (!isRoom(room)) {
            throw new IndexOutOfBoundsException();
        }
        save();
        state.closeQuestion();
        int previous = state.world.room;
        state.world.room = room;
        return previous;
    }

    public int objects() {
        return state.world.count;
    }

    public int noun(int object) throws IndexOutOfBoundsException {
        if (!state.world.exists(object)) {
            throw new IndexOutOfBoundsException();
        }
        return state.world.nouns[object];
    }

    public int adjective(int object) throws IndexOutOfBoundsException {
        if (!state.world.exists(object)) {
            throw new IndexOutOfBoundsException();
        }
        return state.world.adjectives[object];
    }

    public int place(int object) throws IndexOutOfBoundsException {
        if (!state.world.exists(object)) {
            throw new IndexOutOfBoundsException();
        }
        return state.world.places[object];
    }

    public boolean isOpen(int object) throws IndexOutOfBoundsException {
        if (!state.world.exists(object)) {
            throw new IndexOutOfBoundsException();
        }
        return (state.world.openSet & 1 << object) != 0;
    }

    public int objectsAt(int place) throws IndexOutOfBoundsException {
        if (place < 0 || place >= PLACES) {
            throw new IndexOutOfBoundsException();
        }
        return Integer.bitCount(state.world.setAt(place));
    }

    public int room() {
        return state.world.room;
    }

    // ---- sets of objects, as bit masks: bit k is set if the object k belongs to it

    public int visible() {
        return state.world.visibleSet();
    }

    public int suitable(int verb) throws IndexOutOfBoundsException {
        if (verb < TAKE || verb > CLOSE) {
            throw new IndexOutOfBoundsException();
        }
        return state.world.suitableSet(verb);
    }

    public int fitting(int noun, int adjective) throws IndexOutOfBoundsException {
        if (!isNoun(noun) || (adjective != NONE && !isAdjective(adjective))) {
            throw new IndexOutOfBoundsException();
        }
        return state.world.fittingSet(noun, adjective);
    }

    public int candidates() {
        return state.candidates;
    }

    public int it() {
        return state.single;
    }

    public int them() {
        return state.several;
    }

    // ---- commands

    public int append(int code) throws IllegalArgumentException, IllegalStateException {
        if (code < 32 || code > 126) {
            throw new IllegalArgumentException();
        }
        if (!buffer.hasSpaceFor(1)) {
            throw new IllegalStateException();
        }
        buffer.add((char) code);
        return buffer.length;
    }

    public int appendWord(int word) throws IndexOutOfBoundsException, IllegalStateException {
        if (word < 0 || word >= WORDS) {
            throw new IndexOutOfBoundsException();
        }
        boolean apart = buffer.length > 0 && !buffer.isSpace(buffer.length - 1);
        int letters = lengthOf(word);
        if (!buffer.hasSpaceFor(apart ? letters + 1 : letters)) {
            throw new IllegalStateException();
        }
        if (apart) {
            buffer.add(' ');
        }
        for (int k = 0; k < letters; k++) {
            buffer.add(letterOf(word, k));
        }
        return buffer.length;
    }

    public int clearBuffer() {
        int length = buffer.length;
        buffer.length = 0;
        return length;
    }

    public int firstError() {
        reading.start(state.isAsking());
        int from = 0;
        for (int at = 0; at < buffer.length; at++) {
            if (buffer.isSpace(at)) {
                if (!reading.read(buffer.wordAt(from, at)) || !reading.goesOn()) {
                    return at;
                }
                from = at + 1;
            } else if (!beginsNextWord(from, at + 1)) {
                return at;
            }
        }
        return buffer.length;
    }

    public int enter() throws IllegalArgumentException {
        if (!readBuffer()) {
            throw new IllegalArgumentException();
        }
        save();
        buffer.length = 0;
        return state.accept(reading.text);
    }

    public int ifEntered() throws IllegalArgumentException {
        if (!readBuffer()) {
            throw new IllegalArgumentException();
        }
        forecast.copyFrom(state);
        return forecast.accept(reading.text);
    }

    // ---- counts

    public int executed() {
        return state.executed;
    }

    public int failed() {
        return state.failed;
    }

    public int asked() {
        return state.asked;
    }

    // ---- undo

    public int undo() throws IllegalStateException {
        if (savedCount <= 0) {
            throw new IllegalStateException();
        }
        nextSaved = nextSaved > 0 ? nextSaved - 1 : MOST_SAVED - 1;
        savedCount--;
        if (hasRow(nextSaved)) {
            state.copyFrom(saved[nextSaved]);
        }
        return savedCount;
    }

    public int savedStates() {
        return savedCount;
    }

    public long digest() {
        long hash = 8144;
        hash = mixed(hash, objects());
        hash = mixed(hash, room());
        hash = mixed(hash, visible());
        hash = mixed(hash, candidates());
        hash = mixed(hash, it());
        hash = mixed(hash, them());
        hash = mixed(hash, executed());
        hash = mixed(hash, failed());
        hash = mixed(hash, asked());
        World world = state.world;
        for (int k = 0; k < world.count && k < MOST_OBJECTS; k++) {
            hash = mixed(hash, world.nouns[k]);
            hash = mixed(hash, world.adjectives[k]);
            hash = mixed(hash, world.places[k]);
            hash = mixed(hash, world.openSet >> k & 1);
        }
        for (int verb = TAKE; verb <= CLOSE; verb++) {
            hash = mixed(hash, world.suitableSet(verb));
        }
        return hash;
    }

    private static long mixed(long hash, int value) {
        return 31 * hash + value;
    }

    /** Saves in a ring: the state that is overwritten in a full ring is the oldest one. */
    private void save() {
        if (hasRow(nextSaved)) {
            saved[nextSaved].copyFrom(state);
        }
        nextSaved = nextSaved + 1 < MOST_SAVED ? nextSaved + 1 : 0;
        if (savedCount < MOST_SAVED) {
            savedCount++;
        }
    }

    private boolean hasRow(int k) {
        return k >= 0 && k < saved.length && saved[k] != null;
    }

    /** Reads the whole buffer; tells whether it is a complete command or a possible answer. */
    private boolean readBuffer() {
        reading.start(state.isAsking());
        int from = 0;
        for (int at = 0; at <= buffer.length; at++) {
            if (at == buffer.length || buffer.isSpace(at)) {
                if (!reading.read(buffer.wordAt(from, at))) {
                    return false;
                }
                from = at + 1;
            }
        }
        return reading.isComplete();
    }

    private boolean beginsNextWord(int from, int to) {
        for (int word = 0; word < WORDS; word++) {
            if (buffer.begins(word, from, to) && reading.allows(word)) {
                return true;
            }
        }
        return false;
    }

    private static boolean isNoun(int noun) {
        return noun >= 0 && noun < NOUNS;
    }

    private static boolean isAdjective(int adjective) {
        return adjective >= 0 && adjective < ADJECTIVES;
    }

    private static boolean isRoom(int room) {
        return room >= 0 && room < ROOMS;
    }

    private static boolean isContainerNoun(int noun) {
        return noun == BOX || noun == BAG;
    }

    private static boolean isAdjectiveWord(int word) {
        return word >= FIRST_ADJECTIVE && word < FIRST_VERB;
    }

    private static boolean isVerbWord(int word) {
        return word >= FIRST_VERB && word < ALL;
    }

    private static char letterOf(int word, int k) {
        int index = word * WORD_WIDTH + k;
        return k < WORD_WIDTH && index >= 0 && index < LETTERS.length ? LETTERS[index] : ' ';
    }

    private static int lengthOf(int word) {
        int length = 0;
        while (length < WORD_WIDTH && letterOf(word, length) != ' ') {
            length++;
        }
        return length;
    }

    /** The characters that were appended and not yet entered. */
    private static final class Buffer {
        final char[] characters = new char[MOST_CHARACTERS];
        int length;

        boolean hasSpaceFor(int more) {
            return length + more <= characters.length;
        }

        void add(char character) {
            if (length >= 0 && length < characters.length) {
                characters[length] = character;
                length++;
            }
        }

        private char characterAt(int at) {
            return at >= 0 && at < length && at < characters.length ? characters[at] : ' ';
        }

        boolean isSpace(int at) {
            return characterAt(at) == ' ';
        }

        /** Tells whether the word begins with the characters from one index to before another. */
        boolean begins(int word, int from, int to) {
            if (to - from > lengthOf(word)) {
                return false;
            }
            for (int at = from; at < to; at++) {
                if (characterAt(at) != letterOf(word, at - from)) {
                    return false;
                }
            }
            return true;
        }

        int wordAt(int from, int to) {
            for (int word = 0; word < WORDS; word++) {
                if (to - from == lengthOf(word) && begins(word, from, to)) {
                    return word;
                }
            }
            return NONE;
        }
    }

    /** A command or an answer, as it was read, with the answers that its questions have had. */
    private static final class Command {
        static final int LIST = 0;
        static final int EVERYTHING = 1;
        static final int SINGLE = 2;
        static final int SEVERAL = 3;

        /** The target stands in the slot 0, as does an answer; the list stands behind it. */
        static final int TARGET = 0;
        /** 60 characters hold at most seven descriptions in a list. */
        static final int SLOTS = 8;

        final int[] nouns = new int[SLOTS];
        final int[] adjectives = new int[SLOTS];
        /** What a description stands for since its question was answered, as a set; else 0. */
        final int[] chosen = new int[SLOTS];
        int verb = NONE;
        int form;
        boolean targetIsSingle;
        int listed;
        private int slot;

        void reset() {
            for (int k = 0; k < SLOTS; k++) {
                nouns[k] = NONE;
                adjectives[k] = NONE;
                chosen[k] = 0;
            }
            verb = NONE;
            form = LIST;
            targetIsSingle = false;
            listed = 0;
            slot = TARGET;
        }

        void copyFrom(Command other) {
            for (int k = 0; k < SLOTS; k++) {
                nouns[k] = other.nouns[k];
                adjectives[k] = other.adjectives[k];
                chosen[k] = other.chosen[k];
            }
            verb = other.verb;
            form = other.form;
            targetIsSingle = other.targetIsSingle;
            listed = other.listed;
            slot = other.slot;
        }

        boolean isAnswer() {
            return verb == NONE;
        }

        boolean hasSlot(int k) {
            return k >= 0 && k < SLOTS;
        }

        void choose(int k, int object) {
            if (hasSlot(k)) {
                chosen[k] = object;
            }
        }

        /** Notes a word that the grammar allows here. */
        void note(int word) {
            if (isVerbWord(word)) {
                verb = word - FIRST_VERB;
                slot = TARGET + 1;
            } else if (isNoun(word)) {
                noteNoun(word);
            } else if (isAdjectiveWord(word)) {
                noteAdjective(word - FIRST_ADJECTIVE);
            } else {
                noteOther(word);
            }
        }

        private void noteNoun(int noun) {
            if (hasSlot(slot)) {
                nouns[slot] = noun;
                listed = Math.max(listed, slot);
            }
        }

        private void noteAdjective(int adjective) {
            if (hasSlot(slot)) {
                adjectives[slot] = adjective;
            }
        }

        private void noteOther(int word) {
            switch (word) {
                case ALL:
                    form = EVERYTHING;
                    break;
                case AND:
                    slot++;
                    break;
                case IN:
                    slot = TARGET;
                    break;
                case IT:
                    if (slot == TARGET) {
                        targetIsSingle = true;
                    } else {
                        form = SINGLE;
                    }
                    break;
                case THEM:
                    form = SEVERAL;
                    break;
                default:
                    break;
            }
        }
    }

    /** Reads a text word by word, and knows which words can stand next. */
    private static final class Reading {
        private static final int STUCK = -1;
        private static final int START = 0;
        private static final int VERB = 1;
        private static final int AFTER_ALL = 2;
        private static final int AFTER_PRONOUN = 3;
        private static final int LIST = 4;
        private static final int LIST_THE = 5;
        private static final int LIST_ADJECTIVE = 6;
        private static final int LIST_NOUN = 7;
        private static final int TARGET = 8;
        private static final int TARGET_THE = 9;
        private static final int TARGET_ADJECTIVE = 10;
        private static final int ANSWER_THE = 11;
        private static final int ANSWER_ADJECTIVE = 12;
        private static final int END = 13;

        final Command text = new Command();
        private int position;
        private boolean answerPossible;

        void start(boolean asking) {
            text.reset();
            position = START;
            answerPossible = asking;
        }

        /** Reads a word, or NONE for what is no word; tells whether it can stand here. */
        boolean read(int word) {
            int next = after(word);
            if (next == STUCK) {
                return false;
            }
            text.note(word);
            position = next;
            return true;
        }

        boolean allows(int word) {
            return after(word) != STUCK;
        }

        boolean goesOn() {
            for (int word = 0; word < WORDS; word++) {
                if (allows(word)) {
                    return true;
                }
            }
            return false;
        }

        boolean isComplete() {
            switch (position) {
                case END:
                case ANSWER_ADJECTIVE:
                    return true;
                case AFTER_ALL:
                case AFTER_PRONOUN:
                case LIST_NOUN:
                    return text.verb != PUT;
                default:
                    return false;
            }
        }

        private int after(int word) {
            switch (position) {
                case START:
                    return afterStart(word);
                case VERB:
                    return afterVerb(word);
                case AFTER_ALL:
                    return word == BUT ? LIST : afterObjects(word);
                case AFTER_PRONOUN:
                    return afterObjects(word);
                case LIST:
                    return described(word, LIST_THE, LIST_ADJECTIVE, LIST_NOUN);
                case LIST_THE:
                    return described(word, STUCK, LIST_ADJECTIVE, LIST_NOUN);
                case LIST_ADJECTIVE:
                    return described(word, STUCK, STUCK, LIST_NOUN);
                case LIST_NOUN:
                    return word == AND ? LIST : afterObjects(word);
                case TARGET:
                    return word == IT ? END : described(word, TARGET_THE, TARGET_ADJECTIVE, END);
                case TARGET_THE:
                    return described(word, STUCK, TARGET_ADJECTIVE, END);
                case TARGET_ADJECTIVE:
                    return described(word, STUCK, STUCK, END);
                case ANSWER_THE:
                    return described(word, STUCK, ANSWER_ADJECTIVE, STUCK);
                case ANSWER_ADJECTIVE:
                    return word == ONE ? END : described(word, STUCK, STUCK, END);
                default:
                    return STUCK;
            }
        }

        private int afterStart(int word) {
            if (isVerbWord(word)) {
                return word < FIRST_VERB + EAST ? VERB : END;
            }
            return answerPossible ? described(word, ANSWER_THE, ANSWER_ADJECTIVE, STUCK) : STUCK;
        }

        private int afterVerb(int word) {
            if (word == ALL) {
                return AFTER_ALL;
            }
            if (word == IT || word == THEM) {
                return AFTER_PRONOUN;
            }
            return described(word, LIST_THE, LIST_ADJECTIVE, LIST_NOUN);
        }

        private int afterObjects(int word) {
            return word == IN && text.verb == PUT ? TARGET : STUCK;
        }

        /** Says where a word of a description leads, given where each kind of word leads. */
        private static int described(int word, int the, int adjective, int noun) {
            if (word == THE) {
                return the;
            }
            if (isAdjectiveWord(word)) {
                return adjective;
            }
            return isNoun(word) ? noun : STUCK;
        }
    }

    /** The objects with their places, and the player's room. */
    private static final class World {
        final int[] nouns = new int[MOST_OBJECTS];
        final int[] adjectives = new int[MOST_OBJECTS];
        final int[] places = new int[MOST_OBJECTS];
        int count;
        int room;
        int openSet;

        void copyFrom(World other) {
            for (int k = 0; k < MOST_OBJECTS; k++) {
                nouns[k] = other.nouns[k];
                adjectives[k] = other.adjectives[k];
                places[k] = other.places[k];
            }
            count = other.count;
            room = other.room;
            openSet = other.openSet;
        }

        int add(int noun, int adjective, int place) {
            int object = count;
            if (object >= 0 && object < MOST_OBJECTS) {
                nouns[object] = noun;
                adjectives[object] = adjective;
                places[object] = place;
                count++;
            }
            return object;
        }

        boolean exists(int object) {
            return object >= 0 && object < count && object < MOST_OBJECTS;
        }

        boolean hasPlace(int place) {
            if (place < FIRST_INSIDE) {
                return isRoom(place) || place == CARRIED;
            }
            int container = place - FIRST_INSIDE;
            return exists(container) && isContainerNoun(nouns[container]);
        }

        boolean isFull(int place) {
            int most = place == CARRIED ? MOST_CARRIED : MOST_INSIDE;
            return !isRoom(place) && Integer.bitCount(setAt(place)) >= most;
        }

        int setAt(int place) {
            int set = 0;
            for (int k = 0; k < count && k < MOST_OBJECTS; k++) {
                if (places[k] == place) {
                    set |= 1 << k;
                }
            }
            return set;
        }

        int visibleSet() {
            int near = setAt(room) | setAt(CARRIED);
            int visible = near;
            for (int k = 0; k < MOST_OBJECTS; k++) {
                if ((near & openSet & 1 << k) != 0) {
                    visible |= setAt(FIRST_INSIDE + k);
                }
            }
            return visible;
        }

        int suitableSet(int verb) {
            int carried = setAt(CARRIED);
            switch (verb) {
                case TAKE:
                    return visibleSet() & ~carried;
                case DROP:
                    return carried;
                case PUT:
                    return carried & ~containerSet();
                case OPEN:
                    return visibleSet() & containerSet() & ~openSet;
                case CLOSE:
                    return visibleSet() & openSet;
                default:
                    return 0;
            }
        }

        private int containerSet() {
            return fittingSet(BOX, NONE) | fittingSet(BAG, NONE);
        }

        /** NONE stands for any noun, or any adjective. */
        int fittingSet(int noun, int adjective) {
            int set = 0;
            for (int k = 0; k < count && k < MOST_OBJECTS; k++) {
                if ((noun == NONE || nouns[k] == noun)
                        && (adjective == NONE || adjectives[k] == adjective)) {
                    set |= 1 << k;
                }
            }
            return set;
        }

        /** Applies a verb to an object; tells whether it was done. */
        boolean apply(int verb, int object, int targetPlace) {
            if (verb == OPEN) {
                openSet |= 1 << object;
                return true;
            }
            if (verb == CLOSE) {
                openSet &= ~(1 << object);
                return true;
            }
            int place = destination(verb, targetPlace);
            if (!exists(object) || isFull(place)) {
                return false;
            }
            places[object] = place;
            return true;
        }

        private int destination(int verb, int targetPlace) {
            if (verb == TAKE) {
                return CARRIED;
            }
            return verb == DROP ? room : targetPlace;
        }

        int walk(int step) {
            if (!isRoom(room + step)) {
                return 0;
            }
            room += step;
            return 1;
        }
    }

    /** What undo() restores. A resolved set of objects is above 0, a failure below it. */
    private static final class State {
        final World world = new World();
        final Command command = new Command();
        int single = NONE;
        int several;
        int executed;
        int failed;
        int asked;
        int candidates;
        private int questionSlot = NONE;

        void copyFrom(State other) {
            world.copyFrom(other.world);
            command.copyFrom(other.command);
            single = other.single;
            several = other.several;
            executed = other.executed;
            failed = other.failed;
            asked = other.asked;
            candidates = other.candidates;
            questionSlot = other.questionSlot;
        }

        boolean isAsking() {
            return questionSlot != NONE;
        }

        void closeQuestion() {
            questionSlot = NONE;
            candidates = 0;
        }

        /** Takes a command, or an answer to the open question; gives the result of enter(). */
        int accept(Command text) {
            if (text.isAnswer()) {
                int meant = candidates & world.fittingSet(
                        text.nouns[Command.TARGET], text.adjectives[Command.TARGET]);
                if (Integer.bitCount(meant) != 1) {
                    return NOT_ANSWERED;
                }
                command.choose(questionSlot, meant);
            } else {
                command.copyFrom(text);
            }
            closeQuestion();
            int result = carryOut();
            countResult(result);
            return result;
        }

        private void countResult(int result) {
            if (result >= 0) {
                executed++;
            } else if (result == QUESTION) {
                asked++;
            } else {
                failed++;
            }
        }

        private int carryOut() {
            if (command.verb == EAST) {
                return world.walk(1);
            }
            if (command.verb == WEST) {
                return world.walk(-1);
            }
            int visible = world.visibleSet();
            int target = 0;
            if (command.verb == PUT) {
                // What can be closed is just what can be a target: a visible open container.
                target = resolveTarget(visible, world.suitableSet(CLOSE));
            }
            if (target < 0) {
                return target;
            }
            int objects = resolveObjects(visible, world.suitableSet(command.verb));
            return objects < 0 ? objects : execute(objects, target);
        }

        private int execute(int objects, int target) {
            int targetPlace = FIRST_INSIDE + firstOf(target);
            int done = 0;
            for (int k = 0; k < MOST_OBJECTS; k++) {
                if ((objects & 1 << k) != 0 && world.apply(command.verb, k, targetPlace)) {
                    done++;
                }
            }
            if (Integer.bitCount(objects) == 1) {
                single = firstOf(objects);
            } else {
                several = objects;
            }
            return done;
        }

        private static int firstOf(int set) {
            for (int k = 0; k < MOST_OBJECTS; k++) {
                if ((set & 1 << k) != 0) {
                    return k;
                }
            }
            return NONE;
        }

        private int resolveTarget(int visible, int suitable) {
            return command.targetIsSingle
                    ? resolveSingle(visible, suitable)
                    : resolveDescription(Command.TARGET, visible, suitable);
        }

        private int resolveObjects(int visible, int suitable) {
            switch (command.form) {
                case Command.EVERYTHING:
                    return orNothingSuitable(suitable & ~listedSet());
                case Command.SINGLE:
                    return resolveSingle(visible, suitable);
                case Command.SEVERAL:
                    return several == 0 ? NOTHING_MEANT : orNothingSuitable(suitable & several);
                default:
                    return resolveList(visible, suitable);
            }
        }

        private static int orNothingSuitable(int set) {
            return set == 0 ? NOTHING_SUITABLE : set;
        }

        private int listedSet() {
            int set = 0;
            for (int k = Command.TARGET + 1; k <= command.listed && k < Command.SLOTS; k++) {
                set |= world.fittingSet(command.nouns[k], command.adjectives[k]);
            }
            return set;
        }

        private int resolveSingle(int visible, int suitable) {
            if (single == NONE) {
                return NOTHING_MEANT;
            }
            int set = 1 << single;
            return (set & visible) == 0 ? NOTHING_FITS : orNothingSuitable(set & suitable);
        }

        private int resolveList(int visible, int suitable) {
            int set = 0;
            for (int k = Command.TARGET + 1; k <= command.listed && k < Command.SLOTS; k++) {
                int resolved = resolveDescription(k, visible, suitable);
                if (resolved < 0) {
                    return resolved;
                }
                set |= resolved;
            }
            return set;
        }

        private int resolveDescription(int slot, int visible, int suitable) {
            if (!command.hasSlot(slot)) {
                return NOTHING_FITS;
            }
            if (command.chosen[slot] != 0) {
                return command.chosen[slot];
            }
            int fitting = world.fittingSet(command.nouns[slot], command.adjectives[slot]);
            if ((fitting & visible) == 0) {
                return NOTHING_FITS;
            }
            int possible = fitting & suitable;
            if (Integer.bitCount(possible) > 1) {
                questionSlot = slot;
                candidates = possible;
                return QUESTION;
            }
            return orNothingSuitable(possible);
        }
    }
}
