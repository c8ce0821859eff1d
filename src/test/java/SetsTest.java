/** Promises 11 to 16: the sets of objects, and what the pronouns stand for. */
public final class SetsTest {
    public static void main(String[] args) {
        visibility();
        suitability();
        fitting();
        candidates();
        singleAndSeveral();
        Check.finish("SetsTest");
    }

    /** 0 box here, 1 lamp in it, 2 bag carried, 3 key in it, 4 bag in room 1, 5 coin in it, 6 ball in room 1. */
    private static AdventureParser world() {
        AdventureParser p = new AdventureParser();
        p.addObject(1, 0, 0);
        p.addObject(0, 0, 5);
        p.addObject(5, 0, 4);
        p.addObject(2, 0, 7);
        p.addObject(5, 1, 1);
        p.addObject(3, 0, 9);
        p.addObject(4, 0, 1);
        return p;
    }

    private static void visibility() {
        AdventureParser p = world();
        Check.due("visible, all closed", p.visible(), 0b0000101);
        Check.said(p, "open box", 1);
        Check.due("visible, box open", p.visible(), 0b0000111);
        Check.said(p, "open bag", 1);
        Check.due("visible, bag open", p.visible(), 0b0001111);
        Check.said(p, "east", 1);
        Check.due("visible in room 1", p.visible(), 0b1011100);
        Check.said(p, "open blue bag", 1);
        Check.due("visible with both bags open", p.visible(), 0b1111100);
        Check.said(p, "east", 1);
        Check.due("visible in room 2", p.visible(), 0b0001100);
        Check.said(p, "drop bag", 1);
        Check.due("visible, bag dropped", p.visible(), 0b0001100);
        Check.said(p, "close bag", 1);
        Check.due("visible, bag closed", p.visible(), 0b0000100);
        p.moveTo(3);
        Check.due("visible in room 3", p.visible(), 0);
    }

    private static void suitable(AdventureParser p, int take, int drop, int put, int open, int close) {
        Check.due("suitable for take", p.suitable(0), take);
        Check.due("suitable for drop", p.suitable(1), drop);
        Check.due("suitable for put", p.suitable(2), put);
        Check.due("suitable for open", p.suitable(3), open);
        Check.due("suitable for close", p.suitable(4), close);
    }

    private static void suitability() {
        AdventureParser p = world();
        suitable(p, 0b0000001, 0b0000100, 0, 0b0000101, 0);
        p.addObject(4, 1, 4);
        suitable(p, 0b00000001, 0b10000100, 0b10000000, 0b00000101, 0);
        Check.said(p, "open all", 2);
        suitable(p, 0b00001011, 0b10000100, 0b10000000, 0, 0b00000101);
        Check.said(p, "east", 1);
        suitable(p, 0b01011000, 0b10000100, 0b10000000, 0b00010000, 0b00000100);
        for (int verb : new int[] {-1, 5, 6, Integer.MIN_VALUE, Integer.MAX_VALUE}) {
            Check.index(p, "suitable " + verb, () -> p.suitable(verb));
        }
    }

    private static void fitting() {
        AdventureParser p = world();
        Check.due("fitting bag", p.fitting(5, AdventureParser.NONE), 0b0010100);
        Check.due("fitting blue bag", p.fitting(5, 1), 0b0010000);
        Check.due("fitting red bag", p.fitting(5, 0), 0b0000100);
        Check.due("fitting big bag", p.fitting(5, 3), 0);
        Check.due("fitting coin, not visible", p.fitting(3, AdventureParser.NONE), 0b0100000);
        Check.due("fitting red lamp", p.fitting(0, 0), 0b0000010);
        for (int noun : new int[] {-1, 6, Integer.MIN_VALUE, Integer.MAX_VALUE}) {
            Check.index(p, "fitting noun " + noun, () -> p.fitting(noun, 0));
            Check.index(p, "fitting any noun " + noun, () -> p.fitting(noun, -1));
        }
        for (int adjective : new int[] {-2, 4, Integer.MIN_VALUE, Integer.MAX_VALUE}) {
            Check.index(p, "fitting adjective " + adjective, () -> p.fitting(0, adjective));
        }
    }

    private static void candidates() {
        AdventureParser p = new AdventureParser();
        p.addObject(0, 0, 0);
        p.addObject(0, 1, 4);
        p.addObject(0, 2, 0);
        p.addObject(0, 3, 1);
        Check.due("candidates without a question", p.candidates(), 0);
        Check.said(p, "take lamp", -1);
        Check.due("candidates: suitable ones only", p.candidates(), 0b0101);
        Check.said(p, "red", 1);
        Check.due("candidates after the answer", p.candidates(), 0);
        Check.said(p, "take the lamp", 1);
        Check.said(p, "drop lamp", -1);
        Check.due("candidates for drop", p.candidates(), 0b0111);
    }

    private static void singleAndSeveral() {
        AdventureParser p = new AdventureParser();
        p.addObject(0, 0, 0);
        p.addObject(2, 0, 0);
        p.addObject(3, 0, 1);
        Check.said(p, "take lamp and red lamp and the lamp", 1);
        Check.due("it is the one object", p.it(), 0);
        Check.due("them is still nothing", p.them(), 0);
        Check.said(p, "drop all", 1);
        Check.said(p, "take all", 2);
        Check.due("them after all", p.them(), 0b011);
        Check.due("it is still the lamp", p.it(), 0);
        Check.said(p, "drop key", 1);
        Check.said(p, "drop them", 1);
        Check.due("it after one of them", p.it(), 0);
        Check.due("them is unchanged", p.them(), 0b011);
        Check.said(p, "east", 1);
        Check.due("it after east", p.it(), 0);
        Check.said(p, "take coin", 1);
        Check.due("it is the coin", p.it(), 2);
        Check.said(p, "take coin", -3);
        Check.said(p, "take lamp", -2);
        Check.due("it after failures", p.it(), 2);
        p.undo();
        p.undo();
        p.undo();
        Check.due("it after undo", p.it(), 0);
    }

    private SetsTest() {
    }
}
