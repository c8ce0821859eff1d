import java.util.Map;
import java.util.function.Consumer;
import java.util.function.Supplier;

/**
 * No call changes anything but what its promise says. Two parsers go the same way, just one of them
 * is called, and then both must tell the same of themselves, to the last saved state.
 */
public final class QuietCallsTest {
    public static void main(String[] args) {
        for (Map.Entry<String, Supplier<AdventureParser>> situation : Situations.all().entrySet()) {
            String where = situation.getKey() + ": ";
            objectQueries(where, situation.getValue());
            setQueries(where, situation.getValue());
            otherQueries(where, situation.getValue());
            forecasts(where, situation.getValue());
            justTheBuffer(where, situation.getValue());
            justARoom(where, situation.getValue());
            justAnObject(where, situation.getValue());
            notTheBuffer(where, situation.getValue());
        }
        Check.finish("QuietCallsTest");
    }

    private static void quiet(String what, Supplier<AdventureParser> situation,
            Consumer<AdventureParser> call) {
        Trace.same(what + " changes nothing", called(situation, p -> {
            call.accept(p);
            call.accept(p);
        }), situation);
    }

    private static Supplier<AdventureParser> called(Supplier<AdventureParser> situation,
            Consumer<AdventureParser> calls) {
        return () -> {
            AdventureParser p = situation.get();
            calls.accept(p);
            return p;
        };
    }

    private static void objectQueries(String where, Supplier<AdventureParser> situation) {
        Check.sentence("Promises 4 to 10: these calls return, and change nothing");
        quiet(where + "objects", situation, AdventureParser::objects);
        quiet(where + "room", situation, AdventureParser::room);
        int objects = situation.get().objects();
        for (int number = 0; number < objects; number++) {
            int k = number;
            quiet(where + "noun " + k, situation, p -> p.noun(k));
            quiet(where + "adjective " + k, situation, p -> p.adjective(k));
            quiet(where + "place " + k, situation, p -> p.place(k));
            quiet(where + "isOpen " + k, situation, p -> p.isOpen(k));
        }
        for (int number = 0; number <= 16; number++) {
            int place = number;
            quiet(where + "objectsAt " + place, situation, p -> p.objectsAt(place));
        }
    }

    private static void setQueries(String where, Supplier<AdventureParser> situation) {
        Check.sentence("Promises 11 to 16: these calls return, and change nothing");
        quiet(where + "visible", situation, AdventureParser::visible);
        quiet(where + "candidates", situation, AdventureParser::candidates);
        quiet(where + "it", situation, AdventureParser::it);
        quiet(where + "them", situation, AdventureParser::them);
        for (int number = 0; number <= 4; number++) {
            int verb = number;
            quiet(where + "suitable " + verb, situation, p -> p.suitable(verb));
        }
        for (int number = 0; number < 30; number++) {
            int noun = number / 5;
            int adjective = number % 5 - 1;
            quiet(where + "fitting " + noun + " " + adjective, situation,
                    p -> p.fitting(noun, adjective));
        }
    }

    private static void otherQueries(String where, Supplier<AdventureParser> situation) {
        Check.sentence("Promises 20, 23 to 25, 27, 28: these calls return, and change nothing");
        quiet(where + "firstError", situation, AdventureParser::firstError);
        quiet(where + "executed", situation, AdventureParser::executed);
        quiet(where + "failed", situation, AdventureParser::failed);
        quiet(where + "asked", situation, AdventureParser::asked);
        quiet(where + "savedStates", situation, AdventureParser::savedStates);
        quiet(where + "digest", situation, AdventureParser::digest);
    }

    private static void forecasts(String where, Supplier<AdventureParser> situation) {
        Check.sentence("Promise 22: Predicts what enter() would return. It changes nothing");
        String[] texts = {"east", "west", "take all", "drop all", "open all", "close all",
            "put all in box", "put all in bag", "take key", "drop key and key", "take it", "drop it",
            "take them", "drop them", "close them", "take ball", "put key in it"};
        for (String text : texts) {
            quiet(where + "ifEntered of '" + text + "'",
                    () -> Situations.typed(situation.get(), text), AdventureParser::ifEntered);
        }
        if (situation.get().candidates() != 0) {
            for (String answer : new String[] {"red", "the blue one", "old", "big key", "red lamp"}) {
                quiet(where + "ifEntered of '" + answer + "'",
                        () -> Situations.typed(situation.get(), answer), AdventureParser::ifEntered);
            }
        }
    }

    /** With an empty buffer they would be the same, had the calls not changed something else. */
    private static void justTheBuffer(String where, Supplier<AdventureParser> situation) {
        Check.sentence("Promises 17 to 19: the buffer is changed, and nothing else");
        Supplier<AdventureParser> empty = () -> Situations.typed(situation.get(), "");
        Trace.same(where + "clearBuffer changes just the buffer", called(situation, p -> {
            p.clearBuffer();
            p.clearBuffer();
        }), empty);
        Trace.same(where + "append changes just the buffer", called(empty, p -> {
            for (int code = 32; code <= 91; code++) {
                p.append(code);
            }
            p.clearBuffer();
        }), empty);
        for (int number = 0; number <= 24; number++) {
            int word = number;
            Trace.same(where + "appendWord " + word + " changes just the buffer", called(empty, p -> {
                p.appendWord(word);
                p.appendWord(word);
                p.clearBuffer();
            }), empty);
        }
    }

    /** What neither another room nor another object can change; the buffer is used up. */
    private static String lasting(AdventureParser p, int objects) {
        StringBuilder text = new StringBuilder();
        text.append("it ").append(p.it()).append(" them ").append(p.them());
        text.append(" counts ").append(p.executed()).append(' ').append(p.failed());
        text.append(' ').append(p.asked()).append(" saved ").append(p.savedStates());
        for (int k = 0; k < objects; k++) {
            text.append(" object ").append(p.noun(k)).append(' ').append(p.adjective(k));
            text.append(' ').append(p.place(k)).append(' ').append(p.isOpen(k));
        }
        return text.append(" length ").append(p.clearBuffer()).toString();
    }

    private static void lasts(String what, Consumer<AdventureParser> call,
            Supplier<AdventureParser> situation) {
        AdventureParser p = situation.get();
        AdventureParser due = situation.get();
        int objects = due.objects();
        call.accept(p);
        due.moveTo(due.room());
        String told = lasting(p, objects);
        String wanted = lasting(due, objects);
        Check.due(what + ": " + told + "; due is " + wanted, told.equals(wanted), true);
        Check.due(what + " closes the question", p.candidates(), 0);
        Trace.same(what + " and undo", called(situation, q -> {
            call.accept(q);
            q.undo();
        }), called(situation, q -> {
            q.moveTo(q.room());
            q.undo();
        }));
    }

    private static void justARoom(String where, Supplier<AdventureParser> situation) {
        Check.sentence("Promise 3: Moves the player to a room, and changes nothing else");
        for (int number = 0; number <= 3; number++) {
            int room = number;
            lasts(where + "moveTo " + room, p -> p.moveTo(room), situation);
        }
    }

    private static void justAnObject(String where, Supplier<AdventureParser> situation) {
        Check.sentence("Promise 2: Adds an object, and changes nothing else");
        if (situation.get().objects() < 12) {
            for (int number = 0; number <= 3; number++) {
                int place = number;
                lasts(where + "addObject at " + place,
                        p -> p.addObject(Worlds.COIN, Worlds.OLD, place), situation);
            }
        }
    }

    private static void notTheBuffer(String where, Supplier<AdventureParser> situation) {
        Check.sentence("The state consists of everything except the buffer and the saved states");
        int length = situation.get().clearBuffer();
        AdventureParser p = situation.get();
        p.moveTo(1);
        p.undo();
        Check.due(where + "the buffer after moveTo and undo", p.clearBuffer(), length);
        AdventureParser undone = situation.get();
        if (undone.savedStates() > 0) {
            undone.undo();
        }
        Check.due(where + "the buffer after undo", undone.clearBuffer(), length);
    }

    private QuietCallsTest() {
    }
}
