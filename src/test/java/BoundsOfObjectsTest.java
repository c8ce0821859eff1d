/** The boundary cases of 'Objects, rooms' and 'Suitable objects', a method for each sentence. */
public final class BoundsOfObjectsTest {
    public static void main(String[] args) {
        mostCalls();
        noObjects();
        twelveObjects();
        sameNounAndAdjective();
        containers();
        fourRooms();
        firstRoom();
        places();
        greatestPlace();
        containerInContainer();
        visibleFromEachPlace();
        visibleInTheOutermostRooms();
        mostCarried();
        insideIsNotCarried();
        mostInside();
        fullContainersApart();
        noLimitForRooms();
        suitableForTake();
        suitableForDrop();
        suitableForPut();
        suitableForOpenAndClose();
        suitableTarget();
        Check.finish("BoundsOfObjectsTest");
    }

    private static void mostCalls() {
        Check.sentence("An object is used for at most 512 calls");
        AdventureParser p = new AdventureParser();
        for (int round = 0; round < 170; round++) {
            int word = round % 2 == 0 ? 15 : 16;
            Check.due("length in round " + round, p.appendWord(word), 4);
            Check.due("forecast in round " + round, p.ifEntered(), 1);
            Check.due("walk in round " + round, p.enter(), 1);
        }
        Check.due("the 511th call", p.executed(), 170);
        Check.due("the 512th call", p.undo(), 5);
    }

    private static void noObjects() {
        Check.sentence("There are at most 12 objects: none of them");
        AdventureParser p = new AdventureParser();
        Check.due("objects", p.objects(), 0);
        Check.due("visible", p.visible(), 0);
        for (int verb = 0; verb <= 4; verb++) {
            Check.due("suitable for " + verb, p.suitable(verb), 0);
        }
        for (int noun = 0; noun <= 5; noun++) {
            Check.due("fitting " + noun, p.fitting(noun, -1), 0);
        }
        for (String verb : new String[] {"take", "drop", "open", "close"}) {
            Check.said(p, verb + " all", -3);
            Check.said(p, verb + " key", -2);
            Check.said(p, verb + " it", -4);
            Check.said(p, verb + " them", -4);
        }
        Check.said(p, "put all in box", -2);
    }

    private static void twelveObjects() {
        Check.sentence("There are at most 12 objects, which are numbered from 0 in the order");
        AdventureParser p = new AdventureParser();
        Worlds.addThings(p, 11, 0);
        Check.due("the twelfth", Worlds.add(p, "red box 0"), 11);
        Check.due("objects", p.objects(), 12);
        Check.due("visible", p.visible(), 0xFFF);
        for (int place = 0; place <= 4; place++) {
            int there = place;
            Check.state(p, "a thirteenth at " + place, () -> p.addObject(5, 3, there));
        }
        Check.state(p, "a thirteenth in the twelfth", () -> p.addObject(4, 3, 16));
        Check.due("undo", p.undo(), 5);
        Check.due("objects after undo", p.objects(), 11);
        Check.due("a twelfth again", Worlds.add(p, "big bag 0"), 11);
        Check.due("its noun", p.noun(11), Worlds.BAG);
        Check.state(p, "a thirteenth again", () -> p.addObject(1, 0, 0));
    }

    private static void sameNounAndAdjective() {
        Check.sentence("No two objects have both the same noun and the same adjective");
        AdventureParser p = Worlds.with("red lamp 0", "blue lamp 0", "red key 0", "big bag 4");
        for (int place = 0; place <= 4; place++) {
            int there = place;
            Check.state(p, "a red lamp at " + place, () -> p.addObject(0, 0, there));
        }
        Check.state(p, "a red lamp in the bag", () -> p.addObject(0, 0, 8));
        Check.state(p, "a big bag", () -> p.addObject(5, 3, 1));
        p.moveTo(2);
        Check.state(p, "a red lamp that is not seen", () -> p.addObject(0, 0, 2));
        Check.due("in the closed bag", Worlds.add(p, "big coin 8"), 4);
        Check.state(p, "a big coin that is not seen", () -> p.addObject(3, 3, 2));
        p.undo();
        Check.due("the same noun only", Worlds.add(p, "old lamp 0"), 4);
        Check.due("the same adjective only", Worlds.add(p, "red coin 0"), 5);
        Check.due("both, but of two others", Worlds.add(p, "blue key 0"), 6);
        p.undo();
        Check.due("what was undone can come again", Worlds.add(p, "blue key 3"), 6);
    }

    private static void containers() {
        Check.sentence("Objects with the nouns box and bag are containers; at first closed");
        for (int noun = 0; noun <= 5; noun++) {
            AdventureParser p = new AdventureParser();
            p.addObject(noun, 0, 0);
            boolean container = noun == Worlds.BOX || noun == Worlds.BAG;
            Check.due("at first open: " + noun, p.isOpen(0), false);
            Check.due("suitable for open: " + noun, p.suitable(3), container ? 1 : 0);
            Check.said(p, "open " + Texts.NOUNS[noun], container ? 1 : -3);
            Check.due("then open: " + noun, p.isOpen(0), container);
            Check.said(p, "close " + Texts.NOUNS[noun], container ? 1 : -3);
            Check.due("then closed: " + noun, p.isOpen(0), false);
        }
    }

    private static void fourRooms() {
        Check.sentence("There are four rooms, numbered from 0 (west) to 3 (east)");
        AdventureParser p = Worlds.with("red key 0", "blue key 1", "old key 2", "big key 3");
        for (int room = 0; room <= 3; room++) {
            Check.due("moveTo " + room, p.moveTo(room), Math.max(room - 1, 0));
            Check.due("visible in " + room, p.visible(), 1 << room);
            Check.due("objects in " + room, p.objectsAt(room), 1);
        }
        Check.index(p, "moveTo 4", () -> p.moveTo(4));
        Check.index(p, "moveTo -1", () -> p.moveTo(-1));
        Check.argument(p, "an object in the room -1", () -> p.addObject(3, 0, -1));
    }

    private static void firstRoom() {
        Check.sentence("The player is in a room, at first in the room 0");
        AdventureParser p = new AdventureParser();
        Check.due("room", p.room(), 0);
        Check.said(p, "west", 0);
        Check.due("previous room", p.moveTo(0), 0);
    }

    private static void places() {
        Check.sentence("The place of an object is a number: 0 to 3, 4, or 5 + c");
        AdventureParser p = Worlds.with("red box 0", "red key 0", "blue key 3", "old key 4",
                "big key 5", "red bag 1", "red coin 10");
        int[] due = {0, 0, 3, 4, 5, 1, 10};
        for (int k = 0; k < due.length; k++) {
            Check.due("place of " + k, p.place(k), due[k]);
        }
        Check.said(p, "take red key", 1);
        Check.due("taken", p.place(1), 4);
        Check.said(p, "open box", 1);
        Check.said(p, "put red key in box", 1);
        Check.due("in the container 0", p.place(1), 5);
        p.moveTo(1);
        Check.said(p, "drop old key", 1);
        Check.due("dropped", p.place(3), 1);
    }

    /** The last object can be a container, so that 16 is the greatest place there can be. */
    private static void greatestPlace() {
        Check.sentence("5 + c if it is in the container with the number c: c is 11");
        AdventureParser p = new AdventureParser();
        Worlds.addThings(p, 11, 3);
        Worlds.add(p, "red bag 3");
        p.moveTo(3);
        Check.due("nothing in it", p.objectsAt(16), 0);
        Check.said(p, "open bag", 1);
        Check.due("it is open", p.isOpen(11), true);
        Check.due("it", p.it(), 11);
        Check.due("suitable for close", p.suitable(4), 0x800);
        Check.said(p, "take red lamp and blue lamp", 2);
        Check.said(p, "put them in bag", 2);
        Check.due("place", p.place(0), 16);
        Check.due("two in it", p.objectsAt(16), 2);
        Check.due("visible", p.visible(), 0xFFF);
        Check.said(p, "close bag", 1);
        Check.due("visible, it closed", p.visible(), 0xFFC);
    }

    private static void containerInContainer() {
        Check.sentence("A container is never in a container");
        AdventureParser p = Worlds.with("red box 0", "blue bag 4", "red key 4");
        for (int place : new int[] {5, 6}) {
            Check.argument(p, "a box in " + place, () -> p.addObject(1, 3, place));
            Check.argument(p, "a bag in " + place, () -> p.addObject(5, 3, place));
            Check.due("a lamp in " + place, p.addObject(0, place - 5, place), place - 2);
        }
        Check.said(p, "open all", 2);
        Check.said(p, "take box", 1);
        Check.said(p, "put bag in box", -3);
        Check.said(p, "put box in bag", -3);
        Check.said(p, "put bag in bag", -3);
        Check.said(p, "put all in bag", 1);
        Check.due("the box is carried still", p.place(0), 4);
        Check.due("the bag is carried still", p.place(1), 4);
    }

    private static void visibleFromEachPlace() {
        Check.sentence("An object is visible if it is in the player's room, or carried, or in an open"
                + " container that is in the player's room or carried");
        AdventureParser p = Worlds.with("red key 1", "blue key 0", "old key 2", "big key 4",
                "red box 1", "red coin 9", "blue box 4", "blue coin 11", "old box 2", "old coin 13");
        p.moveTo(1);
        Check.due("all closed", p.visible(), 0b0001011001);
        Check.said(p, "open red box", 1);
        Check.due("the box here is open", p.visible(), 0b0001111001);
        Check.said(p, "open blue box", 1);
        Check.due("the carried box too", p.visible(), 0b0011111001);
        p.moveTo(2);
        Check.due("in the next room", p.visible(), 0b0111001100);
        Check.said(p, "open old box", 1);
        Check.due("its box is open", p.visible(), 0b1111001100);
        p.moveTo(1);
        Check.due("the other room's open box", p.visible(), 0b0011111001);
        Check.said(p, "close all", 2);
        Check.due("closed again", p.visible(), 0b0001011001);
    }

    private static void visibleInTheOutermostRooms() {
        Check.sentence("An object is visible if it is in the player's room: the first and the last");
        AdventureParser p = Worlds.with("red key 0", "blue key 3", "old key 1", "big key 2");
        Check.due("in the room 0", p.visible(), 0b0001);
        p.moveTo(3);
        Check.due("in the room 3", p.visible(), 0b0010);
        AdventureParser empty = Worlds.with("red key 1", "blue key 2");
        Check.due("in the empty room 0", empty.visible(), 0);
        empty.moveTo(3);
        Check.due("in the empty room 3", empty.visible(), 0);
    }

    private static void mostCarried() {
        Check.sentence("The player carries at most 6 objects");
        AdventureParser p = new AdventureParser();
        Worlds.addThings(p, 5, 4);
        Check.due("the sixth", Worlds.add(p, "red box 4"), 5);
        Check.due("objects carried", p.objectsAt(4), 6);
        Check.state(p, "a seventh", () -> p.addObject(4, 0, 4));
        Check.state(p, "a seventh, a bag", () -> p.addObject(5, 0, 4));
        Check.due("one that lies here", Worlds.add(p, "red ball 0"), 6);
        Check.said(p, "take ball", 0);
        Check.due("it lies here still", p.place(6), 0);
        Check.said(p, "drop box", 1);
        Check.said(p, "take ball", 1);
        Check.due("objects carried", p.objectsAt(4), 6);
    }

    private static void insideIsNotCarried() {
        Check.sentence("The player carries at most 6 objects (those with the place 4)");
        AdventureParser p = Worlds.with("red bag 4", "red ball 5", "blue ball 5", "old ball 5");
        Worlds.addThings(p, 5, 4);
        Check.due("objects carried", p.objectsAt(4), 6);
        Check.due("one more into the carried bag", Worlds.add(p, "big ball 5"), 9);
        Check.said(p, "open bag", 1);
        Check.said(p, "take red ball", 0);
        Check.due("it is in the bag still", p.place(1), 5);
        Check.said(p, "drop red lamp", -2);
        Check.said(p, "drop big lamp", -2);
        Check.said(p, "drop red key", 1);
        Check.said(p, "take red ball", 1);
        Check.due("objects carried", p.objectsAt(4), 6);
        Check.due("objects in the bag", p.objectsAt(5), 3);
    }

    private static void mostInside() {
        Check.sentence("A container contains at most 4 objects");
        AdventureParser p = Worlds.with("red box 0", "red ball 5", "blue ball 5", "old ball 5");
        Check.due("the fourth", Worlds.add(p, "big ball 5"), 4);
        Check.due("objects in the box", p.objectsAt(5), 4);
        Check.state(p, "a fifth", () -> p.addObject(0, 0, 5));
        Check.due("one that is carried", Worlds.add(p, "red key 4"), 5);
        Check.said(p, "open box", 1);
        Check.said(p, "put key in box", 0);
        Check.due("it is carried still", p.place(5), 4);
        Check.said(p, "take old ball", 1);
        Check.said(p, "put key in box", 1);
        Check.due("objects in the box", p.objectsAt(5), 4);
        Check.state(p, "a fifth again", () -> p.addObject(0, 0, 5));
    }

    private static void fullContainersApart() {
        Check.sentence("A container contains at most 4 objects, each container for itself");
        AdventureParser p = Worlds.with("red box 0", "red bag 4", "red ball 5", "blue ball 5",
                "old ball 5", "big ball 5", "red key 6", "blue key 6", "old key 6");
        Check.state(p, "a fifth in the box", () -> p.addObject(0, 0, 5));
        Check.due("a fourth in the bag", Worlds.add(p, "red lamp 6"), 9);
        Check.state(p, "a fifth in the bag", () -> p.addObject(0, 1, 6));
        Check.due("one more to put", Worlds.add(p, "blue lamp 4"), 10);
        Check.said(p, "open all", 2);
        Check.said(p, "put lamp in bag", 0);
        Check.said(p, "take red key", 1);
        Check.said(p, "put blue lamp in box", 0);
        Check.said(p, "put blue lamp in bag", 1);
    }

    private static void noLimitForRooms() {
        Check.sentence("The place is 0 to 3 if it is in a room: a room is never full");
        AdventureParser p = new AdventureParser();
        Worlds.addThings(p, 12, 2);
        p.moveTo(2);
        Check.due("twelve in a room", p.objectsAt(2), 12);
        Check.said(p, "take all", 6);
        Check.due("six are left", p.objectsAt(2), 6);
        Check.said(p, "drop all", 6);
        Check.due("twelve again", p.objectsAt(2), 12);
    }

    private static void suitableForTake() {
        Check.sentence("take: it is visible and its place is not 4");
        AdventureParser p = Worlds.with("red key 0", "blue key 1", "old key 4", "red box 0",
                "red coin 8", "red bag 4", "blue coin 10");
        Check.due("with closed containers", p.suitable(0), 0b0001001);
        Check.said(p, "open all", 2);
        Check.due("with open containers", p.suitable(0), 0b1011001);
        p.moveTo(3);
        Check.due("in an empty room", p.suitable(0), 0b1000000);
    }

    private static void suitableForDrop() {
        Check.sentence("drop: its place is 4");
        AdventureParser p = Worlds.with("red key 0", "red box 4", "red coin 6", "blue key 3");
        Check.due("a carried box", p.suitable(1), 0b0010);
        Check.said(p, "open box", 1);
        Check.due("not what is in it", p.suitable(1), 0b0010);
        p.moveTo(3);
        Check.due("not what lies in the room 3", p.suitable(1), 0b0010);
        Check.said(p, "drop all", 1);
        Check.due("with an empty hand", p.suitable(1), 0);
        Check.said(p, "drop all", -3);
    }

    private static void suitableForPut() {
        Check.sentence("put: its place is 4 and it is not a container");
        AdventureParser p = Worlds.with("red box 4", "red bag 4", "red lamp 4", "red key 4",
                "red coin 4", "red ball 4", "blue key 0");
        Check.due("of each noun one is carried", p.suitable(2), 0b0111100);
        Check.said(p, "drop all but box and bag", 4);
        Check.due("containers only", p.suitable(2), 0);
        Check.said(p, "open box", 1);
        Check.said(p, "put all in box", -3);
    }

    private static void suitableForOpenAndClose() {
        Check.sentence("open: it is visible, and a closed container; close: an open container");
        AdventureParser p = Worlds.with("red box 0", "blue box 4", "old box 1", "red bag 0",
                "red key 0");
        Check.due("open, at first", p.suitable(3), 0b01011);
        Check.due("close, at first", p.suitable(4), 0);
        Check.said(p, "open red box and bag", 2);
        Check.due("open", p.suitable(3), 0b00010);
        Check.due("close", p.suitable(4), 0b01001);
        p.moveTo(1);
        Check.due("open in the next room", p.suitable(3), 0b00110);
        Check.due("close in the next room", p.suitable(4), 0);
    }

    private static void suitableTarget() {
        Check.sentence("A target is suitable if it is visible and an open container");
        AdventureParser p = Worlds.with("red box 0", "red bag 1", "red key 4", "red lamp 0");
        Check.said(p, "put key in box", -3);
        Check.said(p, "put key in lamp", -3);
        Check.said(p, "put key in bag", -2);
        Check.said(p, "open box", 1);
        p.moveTo(1);
        Check.said(p, "put key in box", -2);
        Check.said(p, "put key in it", -2);
        Check.said(p, "open bag", 1);
        Check.said(p, "put key in it", 1);
        Check.due("place of the key", p.place(2), 6);
        AdventureParser q = Worlds.with("red box 0", "blue box 1", "red key 4", "blue key 4");
        Check.said(q, "open box", 1);
        q.moveTo(1);
        Check.said(q, "put red key in box", -3);
        Check.said(q, "open box", 1);
        Check.said(q, "put red key in box", 1);
        Check.due("in the box that is seen", q.place(2), 6);
        q.moveTo(0);
        Check.said(q, "put blue key in box", 1);
        Check.due("in the other box", q.place(3), 5);
    }

    private BoundsOfObjectsTest() {
    }
}
