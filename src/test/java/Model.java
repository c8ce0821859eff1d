import java.util.ArrayDeque;
import java.util.ArrayList;
import java.util.Arrays;
import java.util.Deque;
import java.util.HashMap;
import java.util.List;
import java.util.Map;
import java.util.TreeSet;

/**
 * The document once more, in another way: a command stays a list of words, a description is known
 * by the place of its noun in it, and every state is a copy of its own.
 */
final class Model {
    /** Thrown where a command fails or asks. */
    private static final class Stop extends Exception {
        private static final long serialVersionUID = 1;
        final int result;

        Stop(int result) {
            this.result = result;
        }
    }

    private static final class Thing {
        final int noun;
        final int adjective;
        final int place;
        final boolean open;

        Thing(int noun, int adjective, int place, boolean open) {
            this.noun = noun;
            this.adjective = adjective;
            this.place = place;
            this.open = open;
        }

        boolean isContainer() {
            return noun == 1 || noun == 5;
        }
    }

    private static final class Situation {
        List<Thing> things = new ArrayList<>();
        int room;
        int it = -1;
        TreeSet<Integer> them = new TreeSet<>();
        int executed;
        int failed;
        int asked;
        List<String> question;
        int questionWord;
        Map<Integer, Integer> answers = new HashMap<>();
        TreeSet<Integer> candidates = new TreeSet<>();

        Situation copy() {
            Situation s = new Situation();
            s.things = new ArrayList<>(things);
            s.room = room;
            s.it = it;
            s.them = new TreeSet<>(them);
            s.executed = executed;
            s.failed = failed;
            s.asked = asked;
            s.question = question;
            s.questionWord = questionWord;
            s.answers = new HashMap<>(answers);
            s.candidates = new TreeSet<>(candidates);
            return s;
        }
    }

    private static final List<String> NOUNS = Arrays.asList(Texts.NOUNS);
    private static final List<String> ADJECTIVES = Arrays.asList(Texts.ADJECTIVES);
    private static final List<String> VERBS = Arrays.asList(Texts.VERBS);

    private Situation now = new Situation();
    private final Deque<Situation> saved = new ArrayDeque<>();
    private String buffer = "";

    private static int mask(Iterable<Integer> numbers) {
        int mask = 0;
        for (int k : numbers) {
            mask += 1 << k;
        }
        return mask;
    }

    private void save() {
        saved.addLast(now.copy());
        if (saved.size() > 6) {
            saved.removeFirst();
        }
    }

    private void closeQuestion() {
        now.question = null;
        now.answers.clear();
        now.candidates.clear();
    }

    int addObject(int noun, int adjective, int place) {
        if (noun < 0 || noun > 5 || adjective < 0 || adjective > 3 || place < 0) {
            throw new IllegalArgumentException();
        }
        if (place > 4) {
            boolean thing = place - 5 < now.things.size();
            if (!thing || !now.things.get(place - 5).isContainer() || noun == 1 || noun == 5) {
                throw new IllegalArgumentException();
            }
        }
        boolean same = false;
        for (Thing t : now.things) {
            same |= t.noun == noun && t.adjective == adjective;
        }
        int most = place < 4 ? 12 : place == 4 ? 6 : 4;
        if (now.things.size() == 12 || same || objectsAt(place) == most) {
            throw new IllegalStateException();
        }
        save();
        closeQuestion();
        now.things.add(new Thing(noun, adjective, place, false));
        return now.things.size() - 1;
    }

    int moveTo(int room) {
        if (room < 0 || room > 3) {
            throw new IndexOutOfBoundsException();
        }
        save();
        closeQuestion();
        int before = now.room;
        now.room = room;
        return before;
    }

    int objects() {
        return now.things.size();
    }

    private Thing thing(int object) {
        if (object < 0 || object >= objects()) {
            throw new IndexOutOfBoundsException();
        }
        return now.things.get(object);
    }

    int noun(int object) {
        return thing(object).noun;
    }

    int adjective(int object) {
        return thing(object).adjective;
    }

    int place(int object) {
        return thing(object).place;
    }

    boolean isOpen(int object) {
        return thing(object).open;
    }

    int objectsAt(int place) {
        if (place < 0 || place > 16) {
            throw new IndexOutOfBoundsException();
        }
        int found = 0;
        for (Thing t : now.things) {
            found += t.place == place ? 1 : 0;
        }
        return found;
    }

    int room() {
        return now.room;
    }

    private boolean sees(int object) {
        int place = now.things.get(object).place;
        if (place == now.room || place == 4) {
            return true;
        }
        return place > 4 && now.things.get(place - 5).open && sees(place - 5);
    }

    int visible() {
        TreeSet<Integer> set = new TreeSet<>();
        for (int k = 0; k < objects(); k++) {
            if (sees(k)) {
                set.add(k);
            }
        }
        return mask(set);
    }

    private boolean suits(int object, String verb) {
        Thing t = now.things.get(object);
        switch (verb) {
            case "take":
                return sees(object) && t.place != 4;
            case "drop":
                return t.place == 4;
            case "put":
                return t.place == 4 && !t.isContainer();
            case "open":
                return sees(object) && t.isContainer() && !t.open;
            default:
                return sees(object) && t.isContainer() && t.open;
        }
    }

    int suitable(int verb) {
        if (verb < 0 || verb > 4) {
            throw new IndexOutOfBoundsException();
        }
        int mask = 0;
        for (int k = 0; k < objects(); k++) {
            mask += suits(k, VERBS.get(verb)) ? 1 << k : 0;
        }
        return mask;
    }

    int fitting(int noun, int adjective) {
        if (noun < 0 || noun > 5 || adjective < -1 || adjective > 3) {
            throw new IndexOutOfBoundsException();
        }
        int mask = 0;
        for (int k = 0; k < objects(); k++) {
            Thing t = now.things.get(k);
            mask += t.noun == noun && (adjective < 0 || t.adjective == adjective) ? 1 << k : 0;
        }
        return mask;
    }

    int candidates() {
        return mask(now.candidates);
    }

    int it() {
        return now.it;
    }

    int them() {
        return mask(now.them);
    }

    int append(int code) {
        if (code < 32 || code > 126) {
            throw new IllegalArgumentException();
        }
        if (buffer.length() == 60) {
            throw new IllegalStateException();
        }
        buffer += (char) code;
        return buffer.length();
    }

    int appendWord(int word) {
        if (word < 0 || word > 24) {
            throw new IndexOutOfBoundsException();
        }
        String[] words = ("lamp box key coin ball bag red blue old big take drop put open close east"
                + " west all but and in the it them one").split(" ");
        String longer = buffer.isEmpty() || buffer.endsWith(" ") ? buffer : buffer + " ";
        longer += words[word];
        if (longer.length() > 60) {
            throw new IllegalStateException();
        }
        buffer = longer;
        return buffer.length();
    }

    int clearBuffer() {
        int length = buffer.length();
        buffer = "";
        return length;
    }

    int firstError() {
        return Texts.firstError(buffer, now.question != null);
    }

    int enter() {
        boolean command = Texts.isCommand(buffer);
        if (!command && !(now.question != null && Texts.isAnswer(buffer))) {
            throw new IllegalArgumentException();
        }
        save();
        List<String> words = Arrays.asList(buffer.split(" "));
        buffer = "";
        if (!command && !answered(words)) {
            return -5;
        }
        if (command) {
            now.answers.clear();
            now.question = words;
        }
        return resolved(now.question);
    }

    int ifEntered() {
        Situation before = now.copy();
        String text = buffer;
        List<Situation> states = new ArrayList<>(saved);
        int result = enter();
        now = before;
        buffer = text;
        saved.clear();
        saved.addAll(states);
        return result;
    }

    private boolean answered(List<String> words) {
        List<Integer> left = new ArrayList<>();
        for (int k : now.candidates) {
            Thing t = now.things.get(k);
            String last = words.get(words.size() - 1);
            boolean named = !NOUNS.contains(last) || NOUNS.indexOf(last) == t.noun;
            if (named && words.contains(ADJECTIVES.get(t.adjective))) {
                left.add(k);
            }
        }
        if (left.size() == 1) {
            now.answers.put(now.questionWord, left.get(0));
        }
        return left.size() == 1;
    }

    private int resolved(List<String> words) {
        now.candidates.clear();
        try {
            int result = carriedOut(words);
            closeQuestion();
            now.executed++;
            return result;
        } catch (Stop stop) {
            if (stop.result == -1) {
                now.asked++;
            } else {
                closeQuestion();
                now.failed++;
            }
            return stop.result;
        }
    }

    private int carriedOut(List<String> words) throws Stop {
        String verb = words.get(0);
        if (verb.equals("east") || verb.equals("west")) {
            int next = now.room + (verb.equals("east") ? 1 : -1);
            boolean there = next >= 0 && next <= 3;
            now.room = there ? next : now.room;
            return there ? 1 : 0;
        }
        int end = words.size();
        int target = -1;
        if (verb.equals("put")) {
            end = words.indexOf("in");
            target = words.get(end + 1).equals("it") ? theSingle("close")
                    : described(words, end + 1, words.size(), "close");
        }
        TreeSet<Integer> objects = theObjects(words, end, verb);
        int done = 0;
        for (int k : objects) {
            done += does(verb, k, target) ? 1 : 0;
        }
        if (objects.size() == 1) {
            now.it = objects.first();
        } else {
            now.them = objects;
        }
        return done;
    }

    private boolean does(String verb, int k, int target) {
        Thing t = now.things.get(k);
        int place = t.place;
        boolean open = t.open;
        switch (verb) {
            case "take":
                if (objectsAt(4) >= 6) {
                    return false;
                }
                place = 4;
                break;
            case "drop":
                place = now.room;
                break;
            case "put":
                if (objectsAt(5 + target) >= 4) {
                    return false;
                }
                place = 5 + target;
                break;
            default:
                open = verb.equals("open");
                break;
        }
        now.things.set(k, new Thing(t.noun, t.adjective, place, open));
        return true;
    }

    private TreeSet<Integer> theObjects(List<String> words, int end, String verb) throws Stop {
        TreeSet<Integer> set = new TreeSet<>();
        String first = words.get(1);
        if (first.equals("it")) {
            set.add(theSingle(verb));
        } else if (first.equals("them")) {
            if (now.them.isEmpty()) {
                throw new Stop(-4);
            }
            set.addAll(now.them);
            set.removeIf(k -> !suits(k, verb));
        } else if (first.equals("all")) {
            for (int k = 0; k < objects(); k++) {
                if (suits(k, verb) && !excepted(words, end, k)) {
                    set.add(k);
                }
            }
        } else {
            int from = 1;
            for (int at = 1; at <= end; at++) {
                if (at == end || words.get(at).equals("and")) {
                    set.add(described(words, from, at, verb));
                    from = at + 1;
                }
            }
        }
        if (set.isEmpty()) {
            throw new Stop(-3);
        }
        return set;
    }

    private boolean excepted(List<String> words, int end, int object) {
        int from = 3;
        for (int at = 3; at <= end; at++) {
            if (at == end || words.get(at).equals("and")) {
                if (from < at && fits(object, words.subList(from, at))) {
                    return true;
                }
                from = at + 1;
            }
        }
        return false;
    }

    private boolean fits(int object, List<String> description) {
        Thing t = now.things.get(object);
        for (String word : description) {
            if (ADJECTIVES.contains(word) && ADJECTIVES.indexOf(word) != t.adjective) {
                return false;
            }
            if (NOUNS.contains(word) && NOUNS.indexOf(word) != t.noun) {
                return false;
            }
        }
        return true;
    }

    private int theSingle(String verb) throws Stop {
        if (now.it == -1) {
            throw new Stop(-4);
        }
        if (!sees(now.it)) {
            throw new Stop(-2);
        }
        if (!suits(now.it, verb)) {
            throw new Stop(-3);
        }
        return now.it;
    }

    private int described(List<String> words, int from, int to, String verb) throws Stop {
        if (now.answers.containsKey(to - 1)) {
            return now.answers.get(to - 1);
        }
        boolean anyVisible = false;
        TreeSet<Integer> suitable = new TreeSet<>();
        for (int k = 0; k < objects(); k++) {
            if (fits(k, words.subList(from, to))) {
                anyVisible |= sees(k);
                if (suits(k, verb)) {
                    suitable.add(k);
                }
            }
        }
        if (!anyVisible) {
            throw new Stop(-2);
        }
        if (suitable.isEmpty()) {
            throw new Stop(-3);
        }
        if (suitable.size() > 1) {
            now.questionWord = to - 1;
            now.candidates = suitable;
            throw new Stop(-1);
        }
        return suitable.first();
    }

    int executed() {
        return now.executed;
    }

    int failed() {
        return now.failed;
    }

    int asked() {
        return now.asked;
    }

    int undo() {
        if (saved.isEmpty()) {
            throw new IllegalStateException();
        }
        now = saved.removeLast();
        return saved.size();
    }

    int savedStates() {
        return saved.size();
    }

    long digest() {
        List<Long> values = new ArrayList<>();
        for (int v : new int[] {objects(), room(), visible(), candidates(), it(), them(), executed(),
            failed(), asked()}) {
            values.add((long) v);
        }
        for (Thing t : now.things) {
            values.add((long) t.noun);
            values.add((long) t.adjective);
            values.add((long) t.place);
            values.add(t.open ? 1L : 0L);
        }
        for (int verb = 0; verb < 5; verb++) {
            values.add((long) suitable(verb));
        }
        long hash = 8144;
        for (long v : values) {
            hash = hash * 31 + v;
        }
        return hash;
    }
}
