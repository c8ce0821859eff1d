import java.util.ArrayList;
import java.util.List;

/**
 * What enter() changes, for every verb with every kind of result, at once and after an answer. A row
 * is a text and what is due: the result, and everything that is another than before; what is not
 * named there is due to stay.
 */
public final class ChangesTest {
    public static void main(String[] args) {
        Check.sentence("The verb is applied to the resolved objects: just that is changed");
        take();
        takeWithFullHand();
        drop();
        put();
        putIntoFullBox();
        putWithTwoTargets();
        open();
        close();
        walks();
        Check.sentence("If there is none, the command fails with -4, and nothing is changed");
        withoutIt();
        withoutThem();
        Check.finish("ChangesTest");
    }

    /**
     * Room 2, "it" is the red lamp (3), "them" are the red box (0) and the red bag (5), both open.
     * The red box holds the coin 6, the bag the coin 7; the blue box (8) is closed and holds the ball.
     * The lamps and the bag are carried, the old key and the blue bag are far away.
     */
    private static AdventureParser world() {
        AdventureParser p = Worlds.with("red box 2", "red key 2", "blue key 2", "red lamp 4",
                "blue lamp 4", "red bag 4", "big coin 5", "old coin 10", "blue box 2", "red ball 13",
                "old key 3", "blue bag 1");
        p.moveTo(2);
        Check.due("containers opened", Check.say(p, "open red box and bag"), 2);
        Check.due("lamp dropped", Check.say(p, "drop red lamp"), 1);
        Check.due("lamp taken", Check.say(p, "take it"), 1);
        Check.due("no other lamp", Check.say(p, "take lamp"), -3);
        Check.due("a question", Check.say(p, "take key"), -1);
        Check.due("a walk", Check.say(p, "west"), 1);
        Check.due("the way back", Check.say(p, "east"), 1);
        return p;
    }

    private static void rows(String... rows) {
        run(world(), rows);
    }

    /** Texts and what is due of them, in turn. */
    private static void run(AdventureParser p, String... rows) {
        StringBuilder said = new StringBuilder();
        int[] before = values(p);
        for (int k = 0; k + 1 < rows.length; k += 2) {
            int result = Check.say(p, rows[k]);
            int[] after = values(p);
            String told = result + changes(before, after);
            before = after;
            said.append(k > 0 ? ", " : "").append(rows[k]);
            Check.due("'" + said + "' changes '" + told + "', due is '" + rows[k + 1] + "'",
                    told.equals(rows[k + 1]), true);
        }
    }

    private static final String[] NAMES = {"room", "it", "them", "candidates", "executed", "failed",
        "asked", "objects"};

    private static int[] values(AdventureParser p) {
        int objects = p.objects();
        List<Integer> values = new ArrayList<>(List.of(p.room(), p.it(), p.them(), p.candidates(),
                p.executed(), p.failed(), p.asked(), objects));
        for (int k = 0; k < objects; k++) {
            values.add(p.place(k));
            values.add(p.isOpen(k) ? 1 : 0);
        }
        return values.stream().mapToInt(Integer::intValue).toArray();
    }

    private static String changes(int[] before, int[] after) {
        StringBuilder text = new StringBuilder();
        for (int k = 0; k < NAMES.length; k++) {
            boolean count = k >= 4;
            if (before[k] != after[k]) {
                text.append(' ').append(NAMES[k]);
                text.append(count ? "+" : "=").append(count ? after[k] - before[k] : after[k]);
            }
        }
        for (int k = NAMES.length; k < before.length && k < after.length; k++) {
            int object = (k - NAMES.length) / 2;
            boolean place = (k - NAMES.length) % 2 == 0;
            if (before[k] != after[k]) {
                text.append(place ? " place" + object + "=" + after[k]
                        : (after[k] == 1 ? " open" : " closed") + object);
            }
        }
        return text.toString();
    }

    private static void take() {
        rows("take red key", "1 it=1 executed+1 place1=4");
        rows("take red key and blue key", "2 them=6 executed+1 place1=4 place2=4");
        rows("take all", "3 them=455 executed+1 place0=4 place1=4 place2=4");
        rows("take all but key and box", "2 them=192 executed+1 place6=4 place7=4");
        rows("take them", "1 it=0 executed+1 place0=4");
        rows("take big coin", "1 it=6 executed+1 place6=4");
        rows("take it", "-3 failed+1");
        rows("take lamp", "-3 failed+1");
        rows("take ball", "-2 failed+1");
        rows("take old key", "-2 failed+1");
        rows("take key", "-1 candidates=6 asked+1",
                "old", "-5",
                "blue lamp", "-5",
                "blue", "1 it=2 candidates=0 executed+1 place2=4");
        rows("take key and key", "-1 candidates=6 asked+1",
                "blue", "-1 asked+1",
                "red", "2 them=6 candidates=0 executed+1 place1=4 place2=4");
        rows("take key and key", "-1 candidates=6 asked+1",
                "blue", "-1 asked+1",
                "the blue one", "1 it=2 candidates=0 executed+1 place2=4");
        rows("take key and ball", "-1 candidates=6 asked+1",
                "red key", "-2 candidates=0 failed+1");
        rows("take key and lamp", "-1 candidates=6 asked+1",
                "the red key", "-3 candidates=0 failed+1");
    }

    private static AdventureParser fullHand() {
        AdventureParser p = world();
        run(p, "take all", "3 them=455 executed+1 place0=4 place1=4 place2=4");
        return p;
    }

    private static void takeWithFullHand() {
        run(fullHand(), "take big coin", "0 it=6 executed+1");
        run(fullHand(), "take all", "0 them=448 executed+1");
        run(fullHand(), "take coin", "-1 candidates=192 asked+1",
                "old", "0 it=7 candidates=0 executed+1");
        run(fullHand(), "take coin and blue box", "-1 candidates=192 asked+1",
                "old", "0 them=384 candidates=0 executed+1");
    }

    private static void drop() {
        rows("drop blue lamp", "1 it=4 executed+1 place4=2");
        rows("drop all", "3 them=56 executed+1 place3=2 place4=2 place5=2");
        rows("drop them", "1 it=5 executed+1 place5=2");
        rows("drop it", "1 executed+1 place3=2");
        rows("drop key", "-3 failed+1");
        rows("drop coin", "-3 failed+1");
        rows("drop ball", "-2 failed+1");
        rows("drop lamp", "-1 candidates=24 asked+1",
                "big", "-5",
                "blue", "1 it=4 candidates=0 executed+1 place4=2");
        rows("drop lamp and lamp", "-1 candidates=24 asked+1",
                "blue", "-1 asked+1",
                "red", "2 them=24 candidates=0 executed+1 place3=2 place4=2");
        rows("drop lamp and ball", "-1 candidates=24 asked+1",
                "blue", "-2 candidates=0 failed+1");
        rows("drop lamp and key", "-1 candidates=24 asked+1",
                "blue", "-3 candidates=0 failed+1");
    }

    private static void put() {
        rows("put blue lamp in red box", "1 it=4 executed+1 place4=5");
        rows("put it in bag", "1 executed+1 place3=10");
        rows("put all in bag", "2 them=24 executed+1 place3=10 place4=10");
        rows("put all but red lamp in box", "1 it=4 executed+1 place4=5");
        rows("put them in box", "-3 failed+1");
        rows("put it in it", "-3 failed+1");
        rows("put lamp in blue box", "-3 failed+1");
        rows("put key in box", "-3 failed+1");
        rows("put bag in box", "-3 failed+1");
        rows("put lamp in ball", "-2 failed+1");
        rows("put ball in box", "-2 failed+1");
        rows("put lamp in box", "-1 candidates=24 asked+1",
                "old", "-5",
                "blue", "1 it=4 candidates=0 executed+1 place4=5");
        rows("put lamp and lamp in bag", "-1 candidates=24 asked+1",
                "blue", "-1 asked+1",
                "red", "2 them=24 candidates=0 executed+1 place3=10 place4=10");
        rows("put lamp and ball in bag", "-1 candidates=24 asked+1",
                "blue", "-2 candidates=0 failed+1");
        rows("put lamp and key in bag", "-1 candidates=24 asked+1",
                "blue", "-3 candidates=0 failed+1");
    }

    /** The red box holds four objects; both lamps are carried. */
    private static AdventureParser fullBox() {
        AdventureParser p = world();
        run(p, "take red key and blue key and old coin",
                "3 them=134 executed+1 place1=4 place2=4 place7=4",
                "put them in box", "3 executed+1 place1=5 place2=5 place7=5",
                "close bag", "1 it=5 executed+1 closed5");
        return p;
    }

    private static void putIntoFullBox() {
        run(fullBox(), "put blue lamp in box", "0 it=4 executed+1");
        run(fullBox(), "put all in box", "0 them=24 executed+1");
        run(fullBox(), "put lamp in box", "-1 candidates=24 asked+1",
                "blue", "0 it=4 candidates=0 executed+1");
        run(fullBox(), "put lamp and lamp in box", "-1 candidates=24 asked+1",
                "blue", "-1 asked+1",
                "red", "0 them=24 candidates=0 executed+1");
    }

    private static void putWithTwoTargets() {
        String opened = "1 it=8 executed+1 open8";
        rows("open box", opened,
                "put lamp in box", "-1 candidates=257 asked+1",
                "blue box", "-1 candidates=24 asked+1",
                "red one", "1 it=3 candidates=0 executed+1 place3=13");
        rows("open box", opened,
                "put all in box", "-1 candidates=257 asked+1",
                "blue", "2 them=24 candidates=0 executed+1 place3=13 place4=13");
        rows("open box", opened,
                "put box in box", "-1 candidates=257 asked+1",
                "blue", "-3 candidates=0 failed+1");
        rows("open box", opened,
                "put it in box", "-1 candidates=257 asked+1",
                "red", "-3 candidates=0 failed+1");
        rows("open box", opened,
                "put old lamp in box", "-1 candidates=257 asked+1",
                "red", "-2 candidates=0 failed+1");
        rows("open box", opened,
                "put red lamp in it", "1 it=3 executed+1 place3=13");
    }

    private static void open() {
        rows("open blue box", "1 it=8 executed+1 open8");
        rows("open box", "1 it=8 executed+1 open8");
        rows("open all", "1 it=8 executed+1 open8");
        rows("open box and box", "1 it=8 executed+1 open8");
        rows("open bag", "-3 failed+1");
        rows("open lamp", "-3 failed+1");
        rows("open them", "-3 failed+1");
        rows("open it", "-3 failed+1");
        rows("open ball", "-2 failed+1");
        rows("open blue bag", "-2 failed+1");
        closedBox("open them", "1 it=0 executed+1 open0");
        closedBox("open all", "2 them=257 executed+1 open0 open8");
        closedBox("open box", "-1 candidates=257 asked+1",
                "big", "-5",
                "blue", "1 it=8 candidates=0 executed+1 open8");
        closedBox("open box and box", "-1 candidates=257 asked+1",
                "blue", "-1 asked+1",
                "red", "2 them=257 candidates=0 executed+1 open0 open8");
        closedBox("open box and ball", "-1 candidates=257 asked+1",
                "blue", "-2 candidates=0 failed+1");
        closedBox("open box and key", "-1 candidates=257 asked+1",
                "blue", "-3 candidates=0 failed+1");
    }

    /** Both boxes are closed and the bag is open; "it" is the red lamp. */
    private static void closedBox(String... rows) {
        AdventureParser p = world();
        run(p, "close box", "1 it=0 executed+1 closed0",
                "drop red lamp", "1 it=3 executed+1 place3=2");
        run(p, rows);
    }

    private static void close() {
        rows("close red box", "1 it=0 executed+1 closed0");
        rows("close bag", "1 it=5 executed+1 closed5");
        rows("close all", "2 executed+1 closed0 closed5");
        rows("close them", "2 executed+1 closed0 closed5");
        rows("close blue box", "-3 failed+1");
        rows("close it", "-3 failed+1");
        rows("close ball", "-2 failed+1");
        String opened = "1 it=8 executed+1 open8";
        rows("open box", opened,
                "close box", "-1 candidates=257 asked+1",
                "old", "-5",
                "red", "1 it=0 candidates=0 executed+1 closed0");
        rows("open box", opened,
                "close box and box", "-1 candidates=257 asked+1",
                "red", "-1 asked+1",
                "blue", "2 them=257 candidates=0 executed+1 closed0 closed8");
        rows("open box", opened,
                "close box and old lamp", "-1 candidates=257 asked+1",
                "red", "-2 candidates=0 failed+1");
        rows("open box", opened,
                "close box and ball", "-1 candidates=257 asked+1",
                "red", "-3 candidates=0 failed+1");
    }

    private static void walks() {
        rows("east", "1 room=3 executed+1",
                "east", "0 executed+1",
                "west", "1 room=2 executed+1",
                "west", "1 room=1 executed+1",
                "west", "1 room=0 executed+1",
                "west", "0 executed+1",
                "east", "1 room=1 executed+1");
        rows("drop lamp", "-1 candidates=24 asked+1",
                "east", "1 room=3 candidates=0 executed+1",
                "drop lamp", "-1 candidates=24 asked+1",
                "east", "0 candidates=0 executed+1",
                "drop lamp", "-1 candidates=24 asked+1",
                "west", "1 room=2 candidates=0 executed+1");
    }

    private static void withoutIt() {
        String[] texts = {"take it", "drop it", "put it in red box", "put red lamp in it", "put all in it",
            "open it", "close it"};
        for (String text : texts) {
            AdventureParser p = Worlds.with("red box 2", "red lamp 4", "blue lamp 4", "red bag 1",
                    "red coin 5", "blue box 2");
            p.moveTo(2);
            run(p, "open all", "2 them=33 executed+1 open0 open5", text, "-4 failed+1");
        }
    }

    private static void withoutThem() {
        String[] texts = {"take them", "drop them", "put them in box", "put them in it", "open them",
            "close them"};
        for (String text : texts) {
            AdventureParser p = Worlds.with("blue lamp 4", "red lamp 4", "red box 2", "red coin 7",
                    "red bag 1");
            p.moveTo(2);
            run(p, "open all", "1 it=2 executed+1 open2", text, "-4 failed+1");
        }
    }

    private ChangesTest() {
    }
}
