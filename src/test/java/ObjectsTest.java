/** Promises 1 to 10: a new parser, objects, places and the room. */
public final class ObjectsTest {
    private static final int MIN = Integer.MIN_VALUE;
    private static final int MAX = Integer.MAX_VALUE;

    public static void main(String[] args) {
        newParser();
        ordinaryObjects();
        argumentsOutOfRange();
        containersInContainers();
        refusedStates();
        argumentBeforeState();
        moving();
        objectNumbers();
        placesCounted();
        Check.finish("ObjectsTest");
    }

    private static void newParser() {
        AdventureParser p = new AdventureParser();
        Check.due("NONE", AdventureParser.NONE, -1);
        Check.due("objects of a new one", p.objects(), 0);
        Check.due("room of a new one", p.room(), 0);
        Check.due("visible of a new one", p.visible(), 0);
        Check.due("candidates of a new one", p.candidates(), 0);
        Check.due("it of a new one", p.it(), -1);
        Check.due("them of a new one", p.them(), 0);
        Check.due("executed of a new one", p.executed(), 0);
        Check.due("failed of a new one", p.failed(), 0);
        Check.due("asked of a new one", p.asked(), 0);
        Check.due("saved states of a new one", p.savedStates(), 0);
        Check.due("clearBuffer of a new one", p.clearBuffer(), 0);
        for (int place = 0; place <= 16; place++) {
            Check.due("objectsAt " + place + " of a new one", p.objectsAt(place), 0);
        }
    }

    private static void ordinaryObjects() {
        AdventureParser p = new AdventureParser();
        int[][] added = {
            {0, 0, 0}, {1, 1, 1}, {2, 2, 2}, {3, 3, 3}, {4, 0, 4}, {5, 1, 4}, {0, 1, 6}, {1, 2, 0},
            {2, 0, 10}, {2, 1, 10}, {5, 0, 3}, {0, 3, 12}
        };
        for (int k = 0; k < added.length; k++) {
            Check.due("addObject " + k, p.addObject(added[k][0], added[k][1], added[k][2]), k);
            Check.due("objects after " + k, p.objects(), k + 1);
        }
        for (int k = 0; k < added.length; k++) {
            Check.due("noun " + k, p.noun(k), added[k][0]);
            Check.due("adjective " + k, p.adjective(k), added[k][1]);
            Check.due("place " + k, p.place(k), added[k][2]);
            Check.due("isOpen " + k, p.isOpen(k), false);
        }
        Check.due("saved states after 12 objects", p.savedStates(), 6);
    }

    private static void argumentsOutOfRange() {
        AdventureParser p = new AdventureParser();
        p.addObject(1, 0, 0);
        p.addObject(2, 0, 0);
        int[][] wrong = {
            {-1, 0, 0}, {6, 0, 0}, {MIN, 0, 0}, {MAX, 0, 0}, {0, -1, 0}, {0, 4, 0}, {0, MIN, 0},
            {0, MAX, 0}, {0, 0, -1}, {0, 0, MIN}, {0, 0, MAX}, {0, 0, 6}, {0, 0, 7}, {0, 0, 16},
            {0, 0, 17}
        };
        for (int[] w : wrong) {
            Check.argument(p, "addObject " + w[0] + " " + w[1] + " " + w[2],
                    () -> p.addObject(w[0], w[1], w[2]));
        }
        Check.due("addObject into the box", p.addObject(0, 0, 5), 2);
    }

    private static void containersInContainers() {
        AdventureParser p = new AdventureParser();
        Check.argument(p, "a box in itself", () -> p.addObject(1, 0, 5));
        p.addObject(1, 0, 0);
        Check.argument(p, "a box in a box", () -> p.addObject(1, 1, 5));
        Check.argument(p, "a bag in a box", () -> p.addObject(5, 1, 5));
        p.addObject(5, 0, 4);
        Check.argument(p, "a box in a bag", () -> p.addObject(1, 1, 6));
        Check.due("a box carried", p.addObject(1, 1, 4), 2);
        Check.due("a bag in a room", p.addObject(5, 1, 3), 3);
    }

    private static void refusedStates() {
        AdventureParser p = new AdventureParser();
        p.addObject(1, 0, 0);
        for (int k = 0; k < 4; k++) {
            Check.due("inside " + k, p.addObject(0, k, 5), k + 1);
        }
        Check.state(p, "a fifth object inside", () -> p.addObject(2, 0, 5));
        Check.state(p, "the same once more", () -> p.addObject(0, 0, 0));
        Check.state(p, "the same box once more", () -> p.addObject(1, 0, 0));
        for (int k = 0; k < 6; k++) {
            Check.due("carried " + k, p.addObject(2 + k / 4, k % 4, 4), k + 5);
        }
        Check.state(p, "a seventh object carried", () -> p.addObject(4, 0, 4));
        Check.due("the twelfth object", p.addObject(4, 0, 2), 11);
        Check.state(p, "a thirteenth object", () -> p.addObject(4, 1, 2));
        Check.due("objects at the end", p.objects(), 12);
    }

    private static void argumentBeforeState() {
        AdventureParser p = new AdventureParser();
        p.addObject(1, 0, 0);
        p.addObject(1, 1, 0);
        Check.argument(p, "the same box in a box", () -> p.addObject(1, 0, 6));
        for (int k = 0; k < 10; k++) {
            p.addObject(2 + k / 4, k % 4, 1);
        }
        Check.argument(p, "a thirteenth of noun 6", () -> p.addObject(6, 0, 0));
        Check.argument(p, "a thirteenth at no place", () -> p.addObject(5, 0, 17));
        Check.argument(p, "a thirteenth, in a key", () -> p.addObject(0, 0, 7));
        Check.state(p, "a thirteenth", () -> p.addObject(5, 0, 0));
    }

    private static void moving() {
        AdventureParser p = new AdventureParser();
        Check.due("moveTo 3", p.moveTo(3), 0);
        Check.due("room 3", p.room(), 3);
        Check.due("moveTo 1", p.moveTo(1), 3);
        Check.due("moveTo 1 again", p.moveTo(1), 1);
        Check.due("saved states after moving", p.savedStates(), 3);
        for (int room : new int[] {-1, 4, 5, MIN, MAX}) {
            Check.index(p, "moveTo " + room, () -> p.moveTo(room));
        }
        Check.due("room 1", p.room(), 1);
        p.undo();
        p.undo();
        Check.due("room after undo", p.room(), 3);
    }

    private static void objectNumbers() {
        for (int count = 0; count < 3; count++) {
            AdventureParser p = new AdventureParser();
            for (int k = 0; k < count; k++) {
                p.addObject(1, k, 0);
            }
            for (int object : new int[] {-1, count, count + 1, 12, MIN, MAX}) {
                Check.index(p, "noun " + object, () -> p.noun(object));
                Check.index(p, "adjective " + object, () -> p.adjective(object));
                Check.index(p, "place " + object, () -> p.place(object));
                Check.index(p, "isOpen " + object, () -> p.isOpen(object));
            }
        }
        AdventureParser p = Worlds.with("red box 0", "blue box 0", "old box 0");
        Check.said(p, "open blue box", 1);
        Check.due("isOpen 0", p.isOpen(0), false);
        Check.due("isOpen 1", p.isOpen(1), true);
        Check.due("isOpen 2", p.isOpen(2), false);
    }

    private static void placesCounted() {
        AdventureParser p = new AdventureParser();
        p.addObject(1, 0, 0);
        p.addObject(0, 0, 0);
        p.addObject(0, 1, 4);
        p.addObject(0, 2, 5);
        p.addObject(0, 3, 5);
        p.addObject(2, 3, 3);
        int[] due = {2, 0, 0, 1, 1, 2};
        for (int place = 0; place <= 16; place++) {
            Check.due("objectsAt " + place, p.objectsAt(place),
                    place < due.length ? due[place] : 0);
        }
        for (int place : new int[] {-1, 17, MIN, MAX}) {
            Check.index(p, "objectsAt " + place, () -> p.objectsAt(place));
        }
    }

    private ObjectsTest() {
    }
}
