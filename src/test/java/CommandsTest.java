/** Promises 21, 23 and 24, without questions: resolving, executing and their counts. */
public final class CommandsTest {
    public static void main(String[] args) {
        walking();
        descriptions();
        targetFirst();
        leftToRight();
        pronounIt();
        pronounThem();
        all();
        allBut();
        mostCarried();
        mostInside();
        openAndClose();
        order();
        counts();
        Check.finish("CommandsTest");
    }

    private static void walking() {
        AdventureParser p = new AdventureParser();
        Check.said(p, "west", 0);
        for (int room = 1; room <= 3; room++) {
            Check.said(p, "east", 1);
            Check.due("room after east", p.room(), room);
        }
        Check.said(p, "east", 0);
        Check.due("room at the east end", p.room(), 3);
        Check.said(p, "west", 1);
        Check.due("room after west", p.room(), 2);
        Check.due("executed, walks without a room too", p.executed(), 6);
        Check.due("failed", p.failed(), 0);
    }

    private static void descriptions() {
        AdventureParser p = new AdventureParser();
        p.addObject(2, 0, 0);
        p.addObject(2, 1, 1);
        p.addObject(3, 0, 0);
        Check.said(p, "take blue key", -2);
        Check.said(p, "take big key", -2);
        Check.said(p, "take lamp", -2);
        Check.said(p, "drop key", -3);
        Check.said(p, "open key", -3);
        Check.said(p, "close red key", -3);
        // The blue key is not here, so nothing is in doubt.
        Check.said(p, "take the key", 1);
        Check.due("place of the red key", p.place(0), 4);
        Check.due("place of the blue key", p.place(1), 1);
        Check.said(p, "east", 1);
        Check.said(p, "take key", 1);
        Check.due("place of the blue key, the only one suitable", p.place(1), 4);
        Check.said(p, "take key", -3);
        Check.said(p, "drop the red key and coin", -2);
        Check.due("nothing is done by a command that fails", p.place(0), 4);
        Check.said(p, "drop the red key and the blue key", 2);
        Check.due("place after drop", p.place(0), 1);
    }

    private static void targetFirst() {
        AdventureParser p = new AdventureParser();
        p.addObject(1, 0, 0);
        p.addObject(5, 0, 1);
        p.addObject(2, 0, 4);
        p.addObject(5, 1, 4);
        Check.said(p, "put lamp in box", -3);
        Check.said(p, "put box in red bag", -2);
        Check.said(p, "put lamp in it", -4);
        Check.said(p, "put them in box", -3);
        Check.said(p, "put key in key", -3);
        Check.said(p, "open box", 1);
        Check.said(p, "put lamp in box", -2);
        Check.said(p, "put them in box", -4);
        Check.said(p, "put box in box", -3);
        Check.said(p, "put blue bag in box", -3);
        Check.said(p, "put it in box", -3);
        Check.said(p, "put key in it", 1);
        Check.due("place of the key", p.place(2), 5);
        Check.due("it after put: not the target", p.it(), 2);
        Check.said(p, "put all in box", -3);
        Check.said(p, "take it", 1);
        Check.said(p, "put it in it", -3);
        Check.said(p, "close box", 1);
        Check.said(p, "put key in it", -3);
        Check.said(p, "put key in box", -3);
        Check.said(p, "east", 1);
        Check.said(p, "put key in it", -2);
        Check.said(p, "open blue bag and red bag", 2);
        Check.said(p, "put key in blue bag", 1);
        Check.due("place of the key in the carried bag", p.place(2), 8);
    }

    private static void leftToRight() {
        AdventureParser p = new AdventureParser();
        p.addObject(2, 0, 0);
        p.addObject(2, 1, 0);
        p.addObject(3, 0, 4);
        Check.said(p, "take coin and lamp", -3);
        Check.said(p, "take lamp and coin", -2);
        Check.said(p, "take coin and key", -3);
        Check.said(p, "take red key and key and lamp", -1);
        Check.said(p, "take lamp and key", -2);
        Check.due("failed", p.failed(), 4);
        Check.due("asked", p.asked(), 1);
        Check.due("executed", p.executed(), 0);
    }

    private static void pronounIt() {
        AdventureParser p = new AdventureParser();
        p.addObject(1, 0, 0);
        p.addObject(2, 0, 5);
        Check.said(p, "take it", -4);
        Check.said(p, "open box", 1);
        Check.said(p, "open it", -3);
        Check.said(p, "take key", 1);
        Check.said(p, "take it", -3);
        Check.said(p, "drop it", 1);
        Check.said(p, "east", 1);
        Check.said(p, "drop it", -2);
        Check.said(p, "take it", -2);
        Check.said(p, "west", 1);
        Check.said(p, "take it", 1);
        Check.said(p, "put it in box", 1);
        Check.said(p, "close box", 1);
        Check.due("it is the box", p.it(), 0);
        Check.said(p, "open it", 1);
        Check.said(p, "take key", 1);
        Check.said(p, "put it in box", 1);
        p.moveTo(0);
        Check.due("it after moveTo", p.it(), 1);
        Check.said(p, "take it", 1);
    }

    private static void pronounThem() {
        AdventureParser p = new AdventureParser();
        p.addObject(2, 0, 0);
        p.addObject(2, 1, 0);
        p.addObject(3, 0, 0);
        Check.said(p, "take them", -4);
        Check.said(p, "take coin", 1);
        Check.said(p, "drop them", -4);
        Check.said(p, "take red key and blue key", 2);
        Check.said(p, "take them", -3);
        Check.said(p, "drop red key", 1);
        Check.said(p, "east", 1);
        Check.said(p, "drop them", 1);
        Check.due("it after them", p.it(), 1);
        Check.due("them after them", p.them(), 0b011);
        Check.said(p, "take them", 1);
        Check.said(p, "west", 1);
        Check.said(p, "take them", 1);
        Check.due("it after the second key", p.it(), 0);
        Check.said(p, "drop all but red key", 2);
        Check.due("them changes with two", p.them(), 0b110);
        Check.said(p, "take them", 2);
        Check.said(p, "open them", -3);
    }

    private static void all() {
        AdventureParser p = new AdventureParser();
        Check.said(p, "take all", -3);
        p.addObject(1, 0, 0);
        p.addObject(2, 0, 5);
        p.addObject(3, 0, 0);
        p.addObject(4, 0, 1);
        Check.said(p, "take all", 2);
        Check.due("them after all", p.them(), 0b0101);
        Check.said(p, "open all", 1);
        Check.said(p, "take all", 1);
        Check.due("place of the key", p.place(1), 4);
        Check.said(p, "put all in box", 2);
        Check.due("objects in the box", p.objectsAt(5), 2);
        Check.said(p, "drop all", 1);
        Check.due("place of the box", p.place(0), 0);
        Check.said(p, "close all", 1);
        Check.said(p, "close all", -3);
    }

    private static void allBut() {
        AdventureParser p = new AdventureParser();
        p.addObject(2, 0, 0);
        p.addObject(2, 1, 0);
        p.addObject(3, 0, 0);
        p.addObject(3, 1, 1);
        Check.said(p, "take all but key and coin", -3);
        Check.said(p, "take all but lamp and the big box", 3);
        Check.said(p, "drop all but key", 1);
        Check.due("it after all but", p.it(), 2);
        Check.said(p, "drop all but red key", 1);
        Check.due("place of the blue key", p.place(1), 0);
        Check.due("place of the red key", p.place(0), 4);
        Check.said(p, "take all but coin and red key", 1);
        Check.due("the blue key was taken", p.place(1), 4);
        Check.said(p, "drop all but the blue key and blue coin", 1);
        Check.due("the red key was dropped", p.place(0), 0);
    }

    private static void mostCarried() {
        AdventureParser p = new AdventureParser();
        for (int k = 0; k < 8; k++) {
            p.addObject(2 + k / 4, k % 4, 0);
        }
        Check.said(p, "take all", 6);
        for (int k = 0; k < 8; k++) {
            Check.due("place " + k + " after taking all", p.place(k), k < 6 ? 4 : 0);
        }
        Check.due("them: also what was left", p.them(), 0b11111111);
        Check.said(p, "take old coin", 0);
        Check.due("it: also what was left", p.it(), 6);
        Check.due("executed", p.executed(), 2);
        Check.said(p, "drop red key", 1);
        Check.said(p, "take old coin and big coin", 1);
        Check.due("the lesser number was taken", p.place(6), 4);
        Check.due("the greater number was left", p.place(7), 0);
    }

    private static void mostInside() {
        AdventureParser p = new AdventureParser();
        p.addObject(1, 0, 0);
        for (int k = 0; k < 6; k++) {
            p.addObject(2 + k / 4, k % 4, 4);
        }
        Check.said(p, "open box", 1);
        Check.said(p, "put all in it", 4);
        Check.due("objects in the box", p.objectsAt(5), 4);
        Check.due("place of the last one inside", p.place(4), 5);
        Check.due("place of the first one left", p.place(5), 4);
        Check.due("them", p.them(), 0b1111110);
        Check.said(p, "put red coin in box", 0);
        Check.said(p, "take red key", 1);
        Check.said(p, "put blue coin and red coin in box", 1);
        Check.due("the lesser number got in", p.place(5), 5);
        Check.due("the greater number did not", p.place(6), 4);
    }

    private static void openAndClose() {
        AdventureParser p = new AdventureParser();
        p.addObject(1, 0, 0);
        p.addObject(5, 0, 4);
        p.addObject(1, 1, 2);
        Check.said(p, "close box", -3);
        Check.said(p, "open box and bag", 2);
        Check.due("box is open", p.isOpen(0), true);
        Check.due("bag is open", p.isOpen(1), true);
        Check.due("the far box is closed", p.isOpen(2), false);
        Check.said(p, "open bag", -3);
        Check.said(p, "close bag", 1);
        Check.due("bag is closed", p.isOpen(1), false);
        Check.due("box is still open", p.isOpen(0), true);
        Check.said(p, "take box", 1);
        Check.due("a carried box stays open", p.isOpen(0), true);
        Check.said(p, "open blue box", -2);
        Check.said(p, "east", 1);
        Check.said(p, "close all", 1);
        Check.due("the carried box is closed", p.isOpen(0), false);
    }

    /** The objects are done in the order of their numbers, not of the words. */
    private static void order() {
        AdventureParser p = new AdventureParser();
        for (int k = 0; k < 5; k++) {
            p.addObject(2 + k / 4, k % 4, 4);
        }
        p.addObject(4, 0, 0);
        p.addObject(4, 1, 0);
        Check.said(p, "take blue ball and red ball and blue ball", 1);
        Check.due("place of the red ball", p.place(5), 4);
        Check.due("place of the blue ball", p.place(6), 0);
        Check.due("them", p.them(), 0b1100000);
    }

    private static void counts() {
        AdventureParser p = new AdventureParser();
        p.addObject(2, 0, 0);
        Check.said(p, "take it", -4);
        Check.said(p, "take lamp", -2);
        Check.said(p, "drop key", -3);
        Check.due("failed", p.failed(), 3);
        Check.due("executed", p.executed(), 0);
        Check.said(p, "take key", 1);
        Check.said(p, "west", 0);
        Check.unsaid(p, "take");
        Check.due("executed", p.executed(), 2);
        Check.due("failed", p.failed(), 3);
        Check.due("asked", p.asked(), 0);
        p.undo();
        p.undo();
        p.undo();
        Check.due("executed after undo", p.executed(), 0);
        Check.due("failed after undo", p.failed(), 2);
    }

    private CommandsTest() {
    }
}
