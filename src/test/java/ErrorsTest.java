import java.util.Random;

/** Promise 20, and which texts enter() takes: the forms of commands and answers. */
public final class ErrorsTest {
    public static void main(String[] args) {
        Check.due("firstError of nothing", new AdventureParser().firstError(), 0);
        written();
        writtenWithQuestion();
        complete();
        longLists();
        everyNextCharacter();
        byChance();
        changesNothing();
        Check.finish("ErrorsTest");
    }

    private static AdventureParser asking() {
        AdventureParser p = new AdventureParser();
        p.addObject(0, 0, 0);
        p.addObject(0, 1, 0);
        Check.said(p, "take lamp", -1);
        return p;
    }

    /** On a parser of its own for every text, as nothing is promised behind 512 calls. */
    private static void errorAt(boolean asking, String text, int want) {
        AdventureParser p = asking ? asking() : new AdventureParser();
        Check.type(p, text);
        Check.due("firstError of '" + text + "'", p.firstError(), want);
        Check.due("length after firstError of '" + text + "'", p.clearBuffer(), text.length());
    }

    private static void written() {
        errorAt(false, " take", 0);
        errorAt(false, "Take", 0);
        errorAt(false, "lamp", 0);
        errorAt(false, "red", 0);
        errorAt(false, "old", 1);
        errorAt(false, "one", 1);
        errorAt(false, "the red", 1);
        errorAt(false, "tak key", 3);
        errorAt(false, "takes key", 4);
        errorAt(false, "take  key", 5);
        errorAt(false, "take key ", 9);
        errorAt(false, "take key  and", 9);
        errorAt(false, "take key in", 9);
        errorAt(false, "take it ", 7);
        errorAt(false, "take all ", 9);
        errorAt(false, "take all in", 9);
        errorAt(false, "take all but ", 13);
        errorAt(false, "take all but all", 13);
        errorAt(false, "take all but them", 16);
        errorAt(false, "take them and key", 9);
        errorAt(false, "take the them", 9);
        errorAt(false, "take the the key", 9);
        errorAt(false, "take the red", 12);
        errorAt(false, "take the red old key", 13);
        errorAt(false, "take red key and all", 17);
        errorAt(false, "take and", 6);
        errorAt(false, "take one", 6);
        errorAt(false, "west ", 4);
        errorAt(false, "eastx", 4);
        errorAt(false, "put key", 7);
        errorAt(false, "put key ", 8);
        errorAt(false, "put all but key in the red box and", 30);
        errorAt(false, "put all in them", 14);
        errorAt(false, "put them in all", 12);
        errorAt(false, "put it in it ", 12);
        errorAt(false, "put it in the it", 14);
        errorAt(false, "put in box", 5);
    }

    private static void writtenWithQuestion() {
        errorAt(true, "the red one", 11);
        errorAt(true, "the one", 5);
        errorAt(true, "the lamp", 4);
        errorAt(true, "the the", 4);
        errorAt(true, "them", 3);
        errorAt(true, "lamp", 0);
        errorAt(true, "one", 1);
        errorAt(true, "red one ", 7);
        errorAt(true, "red lamp ", 8);
        errorAt(true, "red old", 5);
        errorAt(true, "red in", 4);
        errorAt(true, "big ball", 8);
        errorAt(true, "open the big bag and", 20);
        errorAt(true, "it", 0);
        AdventureParser p = asking();
        Check.said(p, "red", 1);
        Check.type(p, "red");
        Check.due("firstError of an answer behind the question", p.firstError(), 0);
    }

    private static void complete() {
        String[] unfinished = {
            "", " ", "take", "take ", "take the", "take red", "take key and", "take key ", "put",
            "put key", "put key in", "put key in the", "put key in red", "put all", "put it", "put them",
            "put all but key", "take all but", "take all but the", "ea", "red", "the red", "red lamp",
            "red one", "east west", "take key in box", " east", "east ", "open it in it", "take key and"
        };
        for (String text : unfinished) {
            Check.unsaid(new AdventureParser(), text);
        }
        AdventureParser q = asking();
        for (String text : new String[] {"", "the", "one", "lamp", "the red ", "red red", "the one",
            "it", "red one one", "take", "put red", "red and blue"}) {
            Check.unsaid(q, text);
        }
        Check.due("the question is still open", q.candidates(), 0b11);
        Check.said(q, "the blue one", 1);
        Check.unsaid(q, "the red one");
    }

    private static void longLists() {
        AdventureParser p = new AdventureParser();
        for (int k = 0; k < 4; k++) {
            p.addObject(k == 0 ? 2 : k == 1 ? 5 : k == 2 ? 1 : 0, 0, 0);
        }
        // Seven descriptions are the most that 60 characters hold; the last one counts too.
        Check.said(p, "take key and key and key and key and key and key and bag", 2);
        Check.due("them after a long list", p.them(), 0b0011);
        Check.said(p, "take all but key and bag and key and bag and key and box", 1);
        Check.due("it after a long list", p.it(), 3);
        Check.said(p, "open bag and bag and bag and bag and bag and bag and box", 2);
        Check.said(p, "put key and key and key and key and key and lamp in bag", 2);
    }

    /** Each next character behind some beginnings. */
    private static void everyNextCharacter() {
        String[] beginnings = {
            "", "t", "ta", "take", "take ", "take a", "take b", "take th", "take the", "take them",
            "take all", "take all ", "take key", "take key ", "take key a", "put it", "put it ",
            "put it i", "put it in ", "put it in i", "put it in the ", "put it in the b", "c", "e",
            "the", "the ", "the r", "red", "red ", "red o", "red b", "o", "ol", "b", "bi", "bl", "west",
            "drop all but the ", "drop all but b", "put key and ", "put all but key ", "close big ",
        };
        for (String beginning : beginnings) {
            for (char next = 32; next <= 126; next++) {
                errorAt(false, beginning + next, Texts.firstError(beginning + next, false));
                errorAt(true, beginning + next, Texts.firstError(beginning + next, true));
            }
        }
    }

    private static void byChance() {
        Random random = new Random(20);
        for (int k = 0; k < 20000; k++) {
            String text = k % 3 == 0 ? Texts.anyWords(random) : Texts.nearly(random);
            if (text.length() > 60) {
                continue;
            }
            errorAt(false, text, Texts.firstError(text, false));
            errorAt(true, text, Texts.firstError(text, true));
            AdventureParser quiet = new AdventureParser();
            Check.type(quiet, text);
            Check.due("'" + text + "' is a command", entered(quiet), Texts.isCommand(text));
            AdventureParser asking = asking();
            Check.type(asking, text);
            Check.due("'" + text + "' is a command or an answer", entered(asking),
                    Texts.isCommand(text) || Texts.isAnswer(text));
        }
    }

    private static boolean entered(AdventureParser p) {
        try {
            p.ifEntered();
            return true;
        } catch (IllegalArgumentException e) {
            return false;
        }
    }

    private static void changesNothing() {
        AdventureParser p = asking();
        Check.type(p, "the red xyz");
        long before = p.digest();
        Check.due("firstError", p.firstError(), 8);
        Check.due("firstError again", p.firstError(), 8);
        Check.due("digest", p.digest(), before);
        Check.due("saved states", p.savedStates(), 3);
        Check.due("length", p.clearBuffer(), 11);
    }

    private ErrorsTest() {
    }
}
