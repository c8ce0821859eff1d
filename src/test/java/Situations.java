import java.util.LinkedHashMap;
import java.util.Map;
import java.util.function.Supplier;

/**
 * Parsers in states in which a wrong change can be seen: there is something in the buffer, the
 * player stands in the room 2, containers are open, "it", "them" and every count stand for
 * something, and of the open question's command one description has had its answer already.
 * Each method makes a new parser by the same calls, some 110 at the most.
 */
final class Situations {
    private Situations() {
    }

    /** All of them, by name. */
    static Map<String, Supplier<AdventureParser>> all() {
        Map<String, Supplier<AdventureParser>> all = new LinkedHashMap<>();
        all.put("a new one", AdventureParser::new);
        all.put("a quiet one", Situations::quiet);
        all.put("an asking one", Situations::asking);
        all.put("one that asks for the target", Situations::askingForTarget);
        all.put("one whose target is known", Situations::knowingTarget);
        all.put("one with a full buffer", Situations::withFullBuffer);
        all.put("one with 12 objects", Situations::full);
        all.put("one with a full hand and bag", Situations::fullHandAndBag);
        all.put("one with undone states", Situations::undone);
        all.put("one with no saved state left", Situations::undoneToTheEnd);
        return all;
    }

    static AdventureParser typed(AdventureParser p, String text) {
        Check.type(p, text);
        return p;
    }

    /** The keys are in doubt; the first one of the command is the blue one. */
    static AdventureParser asking() {
        AdventureParser p = Worlds.with("red box 4", "red key 2", "blue key 2", "red lamp 2",
                "blue lamp 4", "red bag 2", "big coin 5");
        p.moveTo(2);
        Check.due("containers opened", Check.say(p, "open box and bag"), 2);
        Check.due("lamp taken", Check.say(p, "take red lamp"), 1);
        Check.due("all lamps are carried", Check.say(p, "take lamp"), -3);
        Check.due("the first key", Check.say(p, "take key and key"), -1);
        Check.due("the second key", Check.say(p, "blue"), -1);
        Check.due("candidates", p.candidates(), 0b0000110);
        Check.due("it", p.it(), 3);
        Check.due("them", p.them(), 0b0100001);
        return typed(p, "the red key");
    }

    /** Both boxes are in doubt, and then the keys. */
    static AdventureParser askingForTarget() {
        AdventureParser p = Worlds.with("red box 4", "blue box 2", "red key 4", "blue key 4",
                "red lamp 2", "big coin 2");
        p.moveTo(2);
        Check.due("boxes opened", Check.say(p, "open all"), 2);
        Check.due("coin taken", Check.say(p, "take coin"), 1);
        Check.due("no lamp carried", Check.say(p, "drop lamp"), -3);
        Check.due("the target", Check.say(p, "put coin and key in box"), -1);
        Check.due("candidates", p.candidates(), 0b000011);
        return typed(p, "red");
    }

    static AdventureParser knowingTarget() {
        AdventureParser p = askingForTarget();
        Check.due("the key", Check.say(p, "blue"), -1);
        Check.due("candidates", p.candidates(), 0b001100);
        return typed(p, "red one");
    }

    static AdventureParser quiet() {
        AdventureParser p = asking();
        Check.due("a key taken", Check.say(p, "take blue key"), 1);
        Check.due("candidates", p.candidates(), 0);
        return typed(p, "take the ");
    }

    static AdventureParser withFullBuffer() {
        return typed(asking(), Worlds.LONGEST);
    }

    /** The box 0 and the hand are full, the bag 1 holds one object; the box 11 is the 12th. */
    static AdventureParser full() {
        AdventureParser p = Worlds.with("red box 4", "red bag 4", "red ball 5", "blue ball 5",
                "old ball 5", "big ball 5", "red lamp 6", "red key 4", "blue key 4", "old key 4",
                "big key 4", "blue box 2");
        p.moveTo(2);
        Check.due("objects carried", p.objectsAt(4), 6);
        Check.due("objects in the box", p.objectsAt(5), 4);
        Check.due("containers opened", Check.say(p, "open all"), 3);
        Check.due("bag closed", Check.say(p, "close bag"), 1);
        Check.due("no lamp to be seen", Check.say(p, "take lamp"), -2);
        Check.due("the first key", Check.say(p, "drop key and key"), -1);
        Check.due("the second key", Check.say(p, "old"), -1);
        return typed(p, "east");
    }

    /** The hand and the bag 0 are full, with 11 objects in all. */
    static AdventureParser fullHandAndBag() {
        AdventureParser p = Worlds.with("red bag 4", "red ball 5", "blue ball 5", "old ball 5",
                "big ball 5", "red key 4", "blue key 4", "old key 4", "big key 4", "red coin 4",
                "blue coin 2");
        p.moveTo(2);
        Check.due("objects carried", p.objectsAt(4), 6);
        Check.due("objects in the bag", p.objectsAt(5), 4);
        Check.due("bag opened", Check.say(p, "open bag"), 1);
        Check.due("nothing can be taken", Check.say(p, "take all"), 0);
        Check.due("no box anywhere", Check.say(p, "open box"), -2);
        Check.due("the first key", Check.say(p, "drop key and key"), -1);
        Check.due("the second key", Check.say(p, "old"), -1);
        return typed(p, "old");
    }

    /** Behind undo() there are free rows for saved states, which no call may take in vain. */
    static AdventureParser undone() {
        AdventureParser p = asking();
        p.moveTo(3);
        p.moveTo(1);
        p.undo();
        p.undo();
        Check.due("saved states", p.savedStates(), 4);
        Check.due("candidates", p.candidates(), 0b0000110);
        return p;
    }

    static AdventureParser undoneToTheEnd() {
        AdventureParser p = asking();
        for (int k = 0; k < 6; k++) {
            p.moveTo(k % 4);
        }
        while (p.savedStates() > 0) {
            p.undo();
        }
        Check.due("candidates", p.candidates(), 0b0000110);
        return p;
    }
}
