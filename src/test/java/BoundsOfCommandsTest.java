/** The boundary cases of 'Commands', 'Resolving' and 'Executing', a method for each sentence. */
public final class BoundsOfCommandsTest {
    public static void main(String[] args) {
        oneSpaceEach();
        listOfOne();
        longestLists();
        descriptionParts();
        lastPartMissing();
        eastAndWestStandAlone();
        answersNeedAQuestion();
        firstFailureDecides();
        noVisibleOneFits();
        noSuitableOneFits();
        justOneSuitableFits();
        severalSuitableFit();
        itStandsForNothing();
        itIsGone();
        themStandForNothing();
        themArePartlySuitable();
        allOfNothing();
        allButEverything();
        butWhatDoesNotExist();
        ascendingOnceEach();
        handFillsUp();
        containerFillsUp();
        dropAlways();
        openAndCloseOnce();
        oneOrSeveral();
        targetIsNotIt();
        outermostRooms();
        Check.finish("BoundsOfCommandsTest");
    }

    private static void oneSpaceEach() {
        Check.sentence("separated by one space each; no space before the first word or behind the last");
        AdventureParser p = Worlds.with("red key 0", "red lamp 0");
        Check.unsaid(p, " take key");
        Check.unsaid(p, "take key ");
        Check.unsaid(p, "take  key");
        Check.unsaid(p, "takekey");
        Check.unsaid(p, "take key  and lamp");
        Check.unsaid(p, " ");
        Check.unsaid(p, "east ");
        Check.unsaid(p, " west");
        Check.said(p, "take key", 1);
    }

    private static void listOfOne() {
        Check.sentence("A list is one or more descriptions with \"and\" between them");
        AdventureParser p = Worlds.with("red key 0", "red lamp 0", "red box 0");
        Check.unsaid(p, "take");
        Check.unsaid(p, "take and");
        Check.unsaid(p, "take key and");
        Check.unsaid(p, "take and key");
        Check.unsaid(p, "take key and and lamp");
        Check.unsaid(p, "take key lamp");
        Check.unsaid(p, "take all but");
        Check.unsaid(p, "take all but and key");
        Check.unsaid(p, "put in box");
        Check.said(p, "take key", 1);
        Check.said(p, "drop key", 1);
        Check.said(p, "take key and lamp", 2);
        Check.said(p, "drop all but key", 1);
    }

    /** Seven descriptions are the most that 60 characters hold, six if there is a target. */
    private static void longestLists() {
        Check.sentence("A list is one or more descriptions: as many as the buffer holds");
        AdventureParser p = Worlds.with("red lamp 0", "red key 0", "red box 0", "red bag 0",
                "red coin 0", "red ball 0", "blue ball 0");
        Check.said(p, Worlds.LONGEST, 2);
        Check.said(p, "drop all", 2);
        Check.said(p, "take key and box and bag and lamp and coin and red ball", 6);
        Check.said(p, "drop all but key and box and bag and key and key and lamp", 2);
        Check.said(p, "drop key and key and key and key and key and key and box", 2);
        Check.said(p, "open bag and bag and bag and bag and bag and bag and box", 2);
        Check.said(p, "close bag and bag and bag and bag and bag and bag and box", 2);
        AdventureParser q = Worlds.with("red lamp 4", "red key 0", "red box 0", "red bag 4",
                "red coin 0", "red ball 0", "blue ball 0");
        Check.said(q, "open box", 1);
        Check.said(q, "take all but box and bag and blue ball", 3);
        Check.said(q, "put key and key and key and key and key and lamp in box", 2);
        Check.due("the lamp is in the box", q.place(0), 7);
        Check.due("the key is in the box", q.place(1), 7);
        Check.due("the coin is not", q.place(4), 4);
    }

    private static void descriptionParts() {
        Check.sentence("a description is [the] [adjective] noun");
        String[] right = {"key", "the key", "red key", "the red key"};
        for (String description : right) {
            AdventureParser p = Worlds.with("red key 0", "red box 0");
            Check.said(p, "take " + description, 1);
            Check.said(p, "open box", 1);
            Check.said(p, "put " + description + " in the box", 1);
        }
        String[] wrong = {"the", "red", "the red", "red the key", "the the key", "red red key",
            "red blue key", "key red", "key key", "key the"};
        for (String description : wrong) {
            AdventureParser p = Worlds.with("red key 0", "red box 0");
            Check.unsaid(p, "take " + description);
            Check.unsaid(p, "put key in " + description);
        }
    }

    private static void lastPartMissing() {
        Check.sentence("put, then objects as above, then \"in\", and then \"it\" or a description");
        String[] objects = {"key", "it", "them", "all", "all but box"};
        for (String some : objects) {
            AdventureParser p = Worlds.with("red key 4", "red box 0");
            Check.unsaid(p, "put " + some);
            Check.unsaid(p, "put " + some + " in");
            Check.unsaid(p, "put " + some + " in them");
            Check.unsaid(p, "put " + some + " in all");
            Check.unsaid(p, "put " + some + " in box and box");
            Check.unsaid(p, "take " + some + " in box");
        }
        AdventureParser p = Worlds.with("red key 4", "red box 0");
        Check.said(p, "open box", 1);
        Check.said(p, "put all but box in it", 1);
    }

    private static void eastAndWestStandAlone() {
        Check.sentence("east, or west");
        AdventureParser p = Worlds.with("red key 0");
        for (String walk : new String[] {"east", "west"}) {
            Check.unsaid(p, walk + " key");
            Check.unsaid(p, walk + " all");
            Check.unsaid(p, walk + " it");
            Check.unsaid(p, walk + " " + walk);
            Check.unsaid(p, walk.substring(0, 3));
            Check.said(p, walk, 1);
        }
    }

    private static void answersNeedAQuestion() {
        Check.sentence("an answer: it is only possible while a question is open");
        AdventureParser p = Worlds.with("red key 0", "blue key 0");
        String[] answers = {"red", "the red", "red one", "the red one", "red key", "the red key"};
        for (String answer : answers) {
            Check.unsaid(p, answer);
        }
        Check.said(p, "take key", -1);
        Check.unsaid(p, "one");
        Check.unsaid(p, "the");
        Check.unsaid(p, "key");
        Check.unsaid(p, "the one");
        Check.unsaid(p, "red the");
        Check.unsaid(p, "red one key");
        Check.unsaid(p, "red and blue");
        Check.said(p, "red", 1);
        for (String answer : answers) {
            Check.unsaid(p, answer);
        }
    }

    private static void firstFailureDecides() {
        Check.sentence("first the target, then the objects; the first failure or question decides");
        AdventureParser p = Worlds.with("red key 4", "blue key 4", "red box 0", "blue box 0",
                "red coin 0", "red bag 2");
        Check.said(p, "put lamp in bag", -2);
        Check.said(p, "put lamp in coin", -3);
        Check.said(p, "put coin in bag", -2);
        Check.said(p, "put them in box", -3);
        Check.said(p, "put coin in it", -4);
        Check.said(p, "open all", 2);
        Check.said(p, "put key in box", -1);
        Check.due("asked about the target", p.candidates(), 0b1100);
        Check.said(p, "put lamp in box", -1);
        Check.due("asked about the target, whatever the objects", p.candidates(), 0b1100);
        Check.said(p, "red", -2);
        Check.said(p, "put coin and lamp in red box", -3);
        Check.said(p, "put lamp and coin in red box", -2);
        Check.said(p, "put key and lamp in red box", -1);
        Check.due("asked about the first object", p.candidates(), 0b0011);
        Check.said(p, "put lamp and key in red box", -2);
    }

    private static void noVisibleOneFits() {
        Check.sentence("if no visible object fits it, the command fails with the result -2");
        AdventureParser p = Worlds.with("red key 1", "red box 0", "red coin 6", "red bag 4",
                "red ball 8", "red lamp 0");
        for (String verb : new String[] {"take", "drop", "open", "close"}) {
            Check.said(p, verb + " key", -2);
            Check.said(p, verb + " coin", -2);
            Check.said(p, verb + " ball", -2);
            Check.said(p, verb + " blue lamp", -2);
        }
        Check.said(p, "open box and bag", 2);
        Check.said(p, "drop coin", -3);
        Check.said(p, "take coin", 1);
        Check.said(p, "take ball", 1);
        Check.said(p, "put lamp in box", -3);
        Check.said(p, "put coin in box", 1);
    }

    private static void noSuitableOneFits() {
        Check.sentence("if no object that fits it is suitable, it fails with -3");
        AdventureParser p = Worlds.with("red key 4", "blue key 1", "red lamp 0", "red box 4");
        Check.said(p, "take key", -3);
        Check.said(p, "drop lamp", -3);
        Check.said(p, "open lamp", -3);
        Check.said(p, "close box", -3);
        Check.said(p, "open box", 1);
        Check.said(p, "open box", -3);
        Check.said(p, "put lamp in box", -3);
        Check.said(p, "put box in box", -3);
        p.moveTo(1);
        Check.said(p, "take key", 1);
        Check.due("the suitable one", p.place(1), 4);
    }

    private static void justOneSuitableFits() {
        Check.sentence("if just one suitable object fits it, it is this object");
        AdventureParser p = Worlds.with("red key 0", "blue key 4", "old key 1", "red bag 0",
                "big key 8", "red box 0", "blue box 0");
        Check.said(p, "take key", 1);
        Check.due("it", p.it(), 0);
        Check.said(p, "drop red key", 1);
        Check.said(p, "drop key", 1);
        Check.due("it", p.it(), 1);
        Check.said(p, "open red box", 1);
        Check.said(p, "open box", 1);
        Check.due("it", p.it(), 6);
        Check.said(p, "close red box", 1);
        Check.said(p, "take blue key", 1);
        Check.said(p, "put key in box", 1);
        Check.due("in the only open box", p.place(1), 11);
        Check.due("asked", p.asked(), 0);
    }

    private static void severalSuitableFit() {
        Check.sentence("Otherwise it is in doubt: a question is asked, and the result is -1");
        AdventureParser p = Worlds.with("red key 0", "blue key 0");
        Check.said(p, "take key", -1);
        Check.due("two of them", p.candidates(), 0b0011);
        Worlds.add(p, "old key 0");
        Worlds.add(p, "big key 0");
        Check.said(p, "take the key", -1);
        Check.due("four of them", p.candidates(), 0b1111);
        Check.due("asked", p.asked(), 2);
        Check.said(p, "big", 1);
        Check.said(p, "take key", -1);
        Check.due("three of them", p.candidates(), 0b0111);
        Check.said(p, "take old key", 1);
    }

    private static void itStandsForNothing() {
        Check.sentence("\"it\" is the last single object. If there is none, it fails with -4");
        AdventureParser p = Worlds.with("red key 0", "blue key 0", "red box 0");
        Check.said(p, "take it", -4);
        Check.said(p, "put key in it", -4);
        Check.said(p, "take red key and blue key", 2);
        Check.said(p, "drop it", -4);
        Check.said(p, "open box", 1);
        Check.said(p, "close it", 1);
        for (int k = 0; k < 3; k++) {
            p.undo();
        }
        Check.due("it after undo", p.it(), AdventureParser.NONE);
        Check.said(p, "take it", -4);
        Check.due("failed", p.failed(), 3);
    }

    private static void itIsGone() {
        Check.sentence("If it is not visible, it fails with -2, and if it is not suitable, with -3");
        AdventureParser p = Worlds.with("red key 0", "red box 0");
        Check.said(p, "take key", 1);
        Check.said(p, "take it", -3);
        Check.said(p, "drop it", 1);
        Check.said(p, "drop it", -3);
        p.moveTo(1);
        Check.said(p, "take it", -2);
        Check.said(p, "drop it", -2);
        Check.said(p, "put it in it", -2);
        p.moveTo(0);
        Check.said(p, "put key in it", -3);
        Check.said(p, "take it", 1);
        Check.said(p, "open box", 1);
        Check.said(p, "put key in it", 1);
        Check.said(p, "take it", 1);
        Check.said(p, "put it in box", 1);
        Check.said(p, "close box and box", 1);
        Check.due("it is the box", p.it(), 1);
    }

    private static void themStandForNothing() {
        Check.sentence("If there are no last several objects, -4; if none is suitable, -3");
        AdventureParser p = Worlds.with("red key 0", "blue key 0", "red box 0");
        Check.said(p, "take them", -4);
        Check.said(p, "take red key", 1);
        Check.said(p, "drop them", -4);
        Check.said(p, "drop all", 1);
        Check.said(p, "take them", -4);
        Check.said(p, "take red key and blue key", 2);
        Check.said(p, "take them", -3);
        Check.said(p, "open them", -3);
        Check.said(p, "drop them", 2);
        p.moveTo(3);
        Check.said(p, "take them", -3);
        Check.due("them", p.them(), 0b011);
    }

    private static void themArePartlySuitable() {
        Check.sentence("\"them\" are the last several objects: those of them that are suitable");
        AdventureParser p = Worlds.with("red key 0", "blue key 0", "red box 0");
        Check.said(p, "take all", 3);
        Check.said(p, "open them", 1);
        Check.due("just one of them", p.it(), 2);
        Check.due("them", p.them(), 0b111);
        Check.said(p, "put them in box", 2);
        Check.due("two of them", p.them(), 0b011);
        Check.said(p, "drop them", -3);
        Check.said(p, "take them", 2);
    }

    private static void allOfNothing() {
        Check.sentence("\"all\" are all suitable objects. If there are none, it fails with -3");
        AdventureParser p = Worlds.with("red key 1", "red box 2");
        for (String verb : new String[] {"take", "drop", "open", "close"}) {
            Check.said(p, verb + " all", -3);
        }
        p.moveTo(1);
        Check.said(p, "take all", 1);
        Check.due("one is all", p.it(), 0);
        Check.due("and not several", p.them(), 0);
        p.moveTo(2);
        Check.said(p, "put all in box", -3);
        Check.said(p, "open all", 1);
        Check.said(p, "put all in box", 1);
        Check.said(p, "put all in box", -3);
        Check.said(p, "take all", 2);
        Check.due("two are all", p.them(), 0b11);
    }

    private static void allButEverything() {
        Check.sentence("without those that fit a description behind \"but\": all or all but one");
        AdventureParser p = Worlds.with("red key 0", "blue key 0", "red coin 0");
        Check.said(p, "take all but key and coin", -3);
        Check.said(p, "take all but coin and the key", -3);
        Check.said(p, "take all but red key and blue key and coin", -3);
        Check.said(p, "take all but red key and coin", 1);
        Check.due("it", p.it(), 1);
        Check.said(p, "take all but blue coin", 2);
        Check.due("them", p.them(), 0b101);
        Check.due("asked", p.asked(), 0);
    }

    private static void butWhatDoesNotExist() {
        Check.sentence("never in doubt, and it does not matter whether any object fits them");
        AdventureParser p = Worlds.with("red key 0", "blue key 0", "red lamp 3", "red box 0",
                "blue box 0");
        Check.said(p, "take all but ball and lamp and old key and key", 2);
        Check.due("them", p.them(), 0b11000);
        Check.said(p, "drop all but key and bag", 2);
        Check.said(p, "open all but big box", 2);
        Check.said(p, "take red key", 1);
        Check.said(p, "put all but box and lamp in red box", 1);
        Check.due("asked", p.asked(), 0);
        Check.due("failed", p.failed(), 0);
    }

    private static void ascendingOnceEach() {
        Check.sentence("applied in ascending order of their numbers, each one once");
        AdventureParser p = new AdventureParser();
        Worlds.addThings(p, 5, 4);
        Worlds.add(p, "red ball 0");
        Worlds.add(p, "blue ball 0");
        Check.said(p, "take blue ball and red ball and blue ball", 1);
        Check.due("the lesser one", p.place(5), 4);
        Check.due("the greater one", p.place(6), 0);
        Check.said(p, "drop red ball and ball and the red ball", 1);
        Check.due("one object however often", p.it(), 5);
        Check.said(p, "drop red lamp and red lamp", 1);
    }

    private static void handFillsUp() {
        Check.sentence("take: only if the player carries fewer than 6 objects then");
        AdventureParser p = new AdventureParser();
        Worlds.addThings(p, 5, 4);
        Worlds.addThings(p, 3, 0);
        Check.said(p, "take all", 1);
        Check.due("the sixth is taken", p.place(5), 4);
        Check.due("the next one is not", p.place(6), 0);
        Check.due("the last one is not", p.place(7), 0);
        Check.due("them", p.them(), 0b11100000);
        Check.said(p, "take all", 0);
        Check.said(p, "take old key", 0);
        Check.due("it", p.it(), 6);
        Check.said(p, "drop red lamp", 1);
        Check.said(p, "take it", 1);
        Check.due("objects carried", p.objectsAt(4), 6);
        Check.due("executed", p.executed(), 5);
        Check.due("failed", p.failed(), 0);
    }

    private static void containerFillsUp() {
        Check.sentence("put: only if this contains fewer than 4 objects then");
        AdventureParser p = Worlds.with("red box 0", "red ball 5", "blue ball 5", "old ball 5");
        Worlds.addThings(p, 3, 4);
        Check.said(p, "open box", 1);
        Check.said(p, "put all in box", 1);
        Check.due("the fourth got in", p.place(4), 5);
        Check.due("the next one did not", p.place(5), 4);
        Check.due("them", p.them(), 0b1110000);
        Check.said(p, "put all in box", 0);
        Check.said(p, "put red key in box", -3);
        Check.said(p, "put blue key in box", 0);
        Check.due("it", p.it(), 5);
        Check.said(p, "take red ball", 1);
        Check.said(p, "put it in box", 1);
        Check.due("objects in the box", p.objectsAt(5), 4);
    }

    private static void dropAlways() {
        Check.sentence("drop: the place becomes the player's room");
        for (int room = 0; room <= 3; room++) {
            AdventureParser p = new AdventureParser();
            Worlds.addThings(p, 6, room);
            Worlds.addThings(p, 6, 4);
            p.moveTo(room);
            Check.said(p, "drop all", 6);
            Check.due("objects in the room " + room, p.objectsAt(room), 12);
            Check.due("objects carried", p.objectsAt(4), 0);
        }
    }

    private static void openAndCloseOnce() {
        Check.sentence("open and close: the container is open, or closed, then");
        AdventureParser p = Worlds.with("red box 0", "blue box 0", "red bag 0");
        Check.said(p, "open red box and bag and red box", 2);
        Check.due("red box", p.isOpen(0), true);
        Check.due("blue box", p.isOpen(1), false);
        Check.due("bag", p.isOpen(2), true);
        Check.said(p, "open all", 1);
        Check.said(p, "open all", -3);
        Check.said(p, "close all", 3);
        Check.said(p, "close all", -3);
        Check.due("bag", p.isOpen(2), false);
    }

    private static void oneOrSeveral() {
        Check.sentence("just one: the last single object; several: the last several objects."
                + " (This does not depend on whether the verb was done for them)");
        AdventureParser p = new AdventureParser();
        Worlds.addThings(p, 6, 4);
        Worlds.addThings(p, 2, 0);
        Check.said(p, "take old key", 0);
        Check.due("it, not taken", p.it(), 6);
        Check.due("them", p.them(), 0);
        Check.said(p, "take old key and big key", 0);
        Check.due("them, not taken", p.them(), 0b11000000);
        Check.due("it stays", p.it(), 6);
        Check.said(p, "west", 0);
        Check.said(p, "take ball", -2);
        Check.due("it after a walk and a failure", p.it(), 6);
        Check.due("them after a walk and a failure", p.them(), 0b11000000);
        AdventureParser q = new AdventureParser();
        Worlds.addThings(q, 12, 0);
        Check.said(q, "take all", 6);
        Check.due("all twelve", q.them(), 0xFFF);
        Check.due("no single one", q.it(), AdventureParser.NONE);
    }

    private static void targetIsNotIt() {
        Check.sentence("The target does not matter for this");
        AdventureParser p = Worlds.with("red box 0", "red key 4", "blue key 4", "red coin 4");
        Check.said(p, "open all", 1);
        Check.said(p, "put red key and blue key in it", 2);
        Check.due("it", p.it(), 0);
        Check.due("them", p.them(), 0b0110);
        Check.said(p, "put coin in it", 1);
        Check.due("it", p.it(), 3);
        Check.due("them", p.them(), 0b0110);
    }

    private static void outermostRooms() {
        Check.sentence("The result is 1; it is 0 if there is no such room");
        AdventureParser p = new AdventureParser();
        for (int room = 0; room <= 3; room++) {
            p.moveTo(room);
            Check.said(p, "east", room < 3 ? 1 : 0);
            Check.due("room east of " + room, p.room(), Math.min(room + 1, 3));
            p.moveTo(room);
            Check.said(p, "west", room > 0 ? 1 : 0);
            Check.due("room west of " + room, p.room(), Math.max(room - 1, 0));
        }
        Check.due("executed", p.executed(), 8);
        Check.due("failed", p.failed(), 0);
    }

    private BoundsOfCommandsTest() {
    }
}
