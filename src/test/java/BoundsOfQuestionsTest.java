import java.util.function.Consumer;

/** The boundary cases of 'Questions', 'Errors' and 'Undo', a method for each sentence. */
public final class BoundsOfQuestionsTest {
    public static void main(String[] args) {
        leastAndMostCandidates();
        noCandidateFitsTheAnswer();
        nounOfTheAnswer();
        onlyThisDescription();
        everyDescriptionAsked();
        answeredUnlessFailed();
        forgottenByACommand();
        closedByExecuting();
        closedByFailing();
        closedByAddObject();
        closedByMoveTo();
        closedByUndo();
        openAgainByUndo();
        notClosedOtherwise();
        errorsOfNothing();
        errorAtEachIndex();
        errorsHoweverLong();
        errorsOfCaseAndSpace();
        errorsOfAnswers();
        everythingComesBack();
        stateWithoutBuffer();
        savedEvenIfNothingChanges();
        notSavedIfThrown();
        sixStates();
        oneMoreState();
        undoIsNotUndone();
        Check.finish("BoundsOfQuestionsTest");
    }

    private static AdventureParser fourKeys() {
        return Worlds.with("red key 0", "blue key 0", "old key 0", "big key 0");
    }

    private static AdventureParser asking() {
        AdventureParser p = Worlds.with("red key 0", "blue key 0");
        Check.said(p, "take key", -1);
        return p;
    }

    private static void leastAndMostCandidates() {
        Check.sentence("it has candidates: the suitable objects that fit it; 0 if none is open");
        AdventureParser p = fourKeys();
        Check.due("without a question", p.candidates(), 0);
        String[] answers = {"red", "blue one", "the old one"};
        int left = 0b1111;
        for (int k = 0; k < answers.length; k++) {
            Check.said(p, "take key", -1);
            Check.due("candidates", p.candidates(), left);
            Check.said(p, answers[k], 1);
            Check.due("candidates when answered", p.candidates(), 0);
            left -= 1 << k;
        }
        Check.said(p, "take key", 1);
        Check.due("asked, not about the last one", p.asked(), 3);
    }

    private static void noCandidateFitsTheAnswer() {
        Check.sentence("If none or several candidates fit the answer, -5, and the question stays open");
        AdventureParser p = Worlds.with("red key 0", "blue key 0", "old key 1", "big key 4",
                "old coin 0");
        Check.said(p, "take key", -1);
        for (String answer : new String[] {"old", "big", "the old one", "old key", "old coin"}) {
            Check.said(p, answer, -5);
            Check.due("candidates after '" + answer + "'", p.candidates(), 0b00011);
        }
        Check.due("asked", p.asked(), 1);
        Check.due("failed", p.failed(), 0);
        Check.due("executed", p.executed(), 0);
        Check.said(p, "blue", 1);
        Check.due("executed", p.executed(), 1);
    }

    private static void nounOfTheAnswer() {
        Check.sentence("has the adjective of the answer, and its noun if there is one");
        for (int noun = 0; noun <= 5; noun++) {
            AdventureParser p = asking();
            boolean key = noun == Worlds.KEY;
            Check.said(p, "red " + Texts.NOUNS[noun], key ? 1 : -5);
            Check.due("candidates", p.candidates(), key ? 0 : 0b11);
        }
        AdventureParser p = asking();
        Check.said(p, "the blue one", 1);
        Check.due("it", p.it(), 1);
    }

    private static void onlyThisDescription() {
        Check.sentence("this description (but no other one, even with the same words)");
        AdventureParser p = fourKeys();
        Check.said(p, "take key and key and the key", -1);
        Check.said(p, "red", -1);
        Check.due("all again", p.candidates(), 0b1111);
        Check.said(p, "red", -1);
        Check.said(p, "big", 2);
        Check.due("them", p.them(), 0b1001);
        Check.due("asked", p.asked(), 3);
        AdventureParser q = asking();
        Check.said(q, "red", 1);
        Check.said(q, "drop key", 1);
        Check.said(q, "take key", -1);
        Check.due("the next command is asked about anew", q.candidates(), 0b11);
        AdventureParser r = Worlds.with("red box 4", "blue box 4");
        Check.said(r, "open all", 2);
        Check.said(r, "put box in box", -1);
        Check.due("the target", r.candidates(), 0b11);
        Check.said(r, "red", -3);
        Check.due("the red box", r.place(0), 4);
    }

    /** The first, the last and every other description of the longest list, and the target. */
    private static void everyDescriptionAsked() {
        Check.sentence("resolved again, from its beginning (so that another question can be asked)");
        AdventureParser p = Worlds.with("red key 0", "blue key 0");
        Check.type(p, "take key and key and key and key and key and key and key");
        Check.due("the first question", p.enter(), -1);
        for (int k = 1; k <= 6; k++) {
            p.appendWord(6);
            Check.due("question " + (k + 1), p.enter(), -1);
            Check.due("candidates", p.candidates(), 0b11);
            Check.due("asked", p.asked(), k + 1);
        }
        p.appendWord(7);
        Check.due("the last answer", p.enter(), 2);
        Check.due("them", p.them(), 0b11);
        AdventureParser q = Worlds.with("red key 4", "blue key 4", "red box 0", "blue box 0");
        Check.said(q, "open all", 2);
        Check.said(q, "put key in box", -1);
        Check.due("the target", q.candidates(), 0b1100);
        Check.said(q, "blue", -1);
        Check.due("the object", q.candidates(), 0b0011);
        Check.said(q, "blue", 1);
        Check.due("the blue key is in the blue box", q.place(1), 8);
    }

    private static void answeredUnlessFailed() {
        Check.sentence("A question is asked (unless it was answered before); the first failure decides");
        AdventureParser p = Worlds.with("red key 0", "blue key 0", "red lamp 1");
        Check.said(p, "take key and lamp", -1);
        Check.said(p, "red", -2);
        Check.due("the key lies here still", p.place(0), 0);
        Check.said(p, "take lamp and key", -2);
        Check.due("candidates", p.candidates(), 0);
        Check.due("failed", p.failed(), 2);
        Check.due("asked", p.asked(), 1);
    }

    private static void forgottenByACommand() {
        Check.sentence("If a command is entered while a question is open, it is forgotten");
        AdventureParser p = asking();
        Check.said(p, "west", 0);
        Check.due("candidates after a walk to nowhere", p.candidates(), 0);
        Check.unsaid(p, "red");
        Check.said(p, "take key and key", -1);
        Check.said(p, "red", -1);
        Check.said(p, "take key and key", -1);
        Check.said(p, "blue", -1);
        Check.said(p, "blue", 1);
        Check.due("it", p.it(), 1);
        Check.due("what was answered for the forgotten one", p.place(0), 0);
    }

    private static void closedByExecuting() {
        Check.sentence("A question is also closed when its command is executed");
        AdventureParser p = asking();
        Check.said(p, "red", 1);
        Check.due("candidates", p.candidates(), 0);
        Check.unsaid(p, "blue");
        AdventureParser q = new AdventureParser();
        Worlds.addThings(q, 6, 4);
        Worlds.addThings(q, 2, 0);
        Check.said(q, "take key", -1);
        Check.said(q, "big", 0);
        Check.due("candidates though nothing was done", q.candidates(), 0);
        Check.unsaid(q, "old");
    }

    private static void closedByFailing() {
        Check.sentence("A question is also closed when its command fails");
        String[] rest = {"lamp", "coin"};
        int[] results = {-2, -3};
        for (int k = 0; k < rest.length; k++) {
            AdventureParser p = Worlds.with("red key 0", "blue key 0", "red coin 4");
            Check.said(p, "take key and " + rest[k], -1);
            Check.said(p, "red", results[k]);
            Check.due("candidates", p.candidates(), 0);
            Check.unsaid(p, "red");
        }
        AdventureParser p = Worlds.with("red box 0", "blue box 0", "red key 4");
        Check.said(p, "open red box and blue box", 2);
        Check.said(p, "put it in box", -1);
        Check.said(p, "red", -4);
        Check.due("candidates", p.candidates(), 0);
        Check.unsaid(p, "blue");
    }

    private static void closedByAddObject() {
        Check.sentence("closed by every method that is marked \"Undoable\" except enter(): addObject");
        AdventureParser p = asking();
        Check.due("a far object", Worlds.add(p, "red lamp 3"), 2);
        Check.due("candidates", p.candidates(), 0);
        Check.unsaid(p, "red");
        Check.type(p, "the red one");
        Check.due("firstError", p.firstError(), 1);
    }

    private static void closedByMoveTo() {
        Check.sentence("closed by every method that is marked \"Undoable\" except enter(): moveTo");
        for (int room = 0; room <= 3; room++) {
            AdventureParser p = asking();
            Check.due("moveTo " + room, p.moveTo(room), 0);
            Check.due("candidates", p.candidates(), 0);
            Check.unsaid(p, "red");
        }
    }

    private static void closedByUndo() {
        Check.sentence("(also by restoring a state in which no question is open)");
        AdventureParser p = asking();
        Check.due("undo", p.undo(), 2);
        Check.due("candidates", p.candidates(), 0);
        Check.due("asked", p.asked(), 0);
        Check.unsaid(p, "red");
    }

    private static void openAgainByUndo() {
        Check.sentence("an open question with its command belongs to the state");
        AdventureParser p = fourKeys();
        Check.said(p, "take key and key", -1);
        Check.said(p, "red", -1);
        Check.said(p, "drop lamp", -2);
        p.moveTo(1);
        Check.due("undo of moveTo", p.undo(), 5);
        Check.unsaid(p, "blue");
        Check.due("undo of the failure", p.undo(), 4);
        Check.due("candidates", p.candidates(), 0b1111);
        Check.said(p, "old", 2);
        Check.due("them, with the answer from before", p.them(), 0b0101);
        Check.due("undo of the answer", p.undo(), 4);
        Check.due("undo of the first answer", p.undo(), 3);
        Check.said(p, "blue", -1);
        Check.said(p, "blue", 1);
        Check.due("it, without the answer undone", p.it(), 1);
    }

    private static void notClosedOtherwise() {
        Check.sentence("While it is open, an answer can be entered: other calls do not close it");
        AdventureParser p = asking();
        Check.state(p, "the same object", () -> p.addObject(2, 0, 0));
        Check.argument(p, "no such noun", () -> p.addObject(6, 0, 0));
        Check.index(p, "no such room", () -> p.moveTo(4));
        Check.unsaid(p, "take");
        Check.said(p, "old", -5);
        String before = Trace.now(p);
        Check.due("nothing has changed", Trace.now(p).equals(before), true);
        Check.due("candidates", p.candidates(), 0b11);
        Check.said(p, "red", 1);
    }

    private static void error(String text, boolean asking, int want) {
        AdventureParser p = asking ? asking() : new AdventureParser();
        Check.type(p, text);
        Check.due("firstError of '" + text + "'", p.firstError(), want);
        Check.due("length of '" + text + "'", p.clearBuffer(), text.length());
    }

    private static void errorsOfNothing() {
        Check.sentence("the length of the buffer if there is none: the empty buffer");
        error("", false, 0);
        error("", true, 0);
        AdventureParser p = new AdventureParser();
        Check.due("firstError", p.firstError(), 0);
        Check.argument(p, "enter of nothing", p::enter);
        Check.argument(p, "ifEntered of nothing", p::ifEntered);
        p.append('x');
        Check.due("firstError of one character", p.firstError(), 0);
        p.clearBuffer();
        Check.due("firstError of nothing again", p.firstError(), 0);
    }

    /** A full buffer with an error at its first, its last and every other character. */
    private static void errorAtEachIndex() {
        Check.sentence("Returns the index of the first character that is an error: 0 to 59");
        error(Worlds.LONGEST, false, 60);
        for (int k = 0; k < 60; k++) {
            String text = Worlds.LONGEST.substring(0, k) + "~" + Worlds.LONGEST.substring(k + 1);
            error(text, false, k);
            error(text.substring(0, k), false, k);
        }
        error(Worlds.LONGEST.substring(0, 56) + " ~~~", false, 57);
    }

    private static void errorsHoweverLong() {
        Check.sentence("an error if no possible text, however long, begins with the characters");
        error(Worlds.LONGEST_BEGINNING, false, 60);
        error("take lamp and lamp and lamp and lamp and lamp and lamp and t", false, 60);
        error("take lamp and lamp and lamp and lamp and lamp and lamp and x", false, 59);
        error("put lamp and key and key and key and key and key and key in ", false, 60);
        error("put lamp and key and key and key and key and key and key in", false, 59);
        error("take lamp and key and key and key and key and key and key in", false, 58);
        AdventureParser p = new AdventureParser();
        Check.unsaid(p, Worlds.LONGEST_BEGINNING);
        Check.unsaid(p, "put lamp and key and key and key and key and key and key in");
    }

    private static void errorsOfCaseAndSpace() {
        Check.sentence("A character of the buffer is an error: spaces and letters that do not fit");
        error(" ", false, 0);
        error("East", false, 0);
        error("eAst", false, 1);
        error("east ", false, 4);
        error("easts", false, 4);
        error("take", false, 4);
        error("take ", false, 5);
        error("take  ", false, 5);
        error("take it ", false, 7);
        error("put it ", false, 7);
        error("take all ", false, 9);
        error("take all i", false, 9);
        error("put all i", false, 9);
        error("put key in key ", false, 14);
        error("put key in it ", false, 13);
        error("take the the", false, 9);
        error("take the them", false, 9);
        error("take thek", false, 8);
    }

    private static void errorsOfAnswers() {
        Check.sentence("the commands, and, while a question is open, also the answers");
        String[] answers = {"red", "the red", "red one", "the blue one", "old key", "the big bag"};
        int[] quiet = {0, 1, 0, 1, 1, 1};
        for (int k = 0; k < answers.length; k++) {
            error(answers[k], true, answers[k].length());
            error(answers[k], false, quiet[k]);
            error(answers[k] + "~", true, answers[k].length());
            error("~" + answers[k], true, 0);
        }
        error("red ", true, 4);
        error("red one ", true, 7);
        error("red key ", true, 7);
        error("red key and", true, 7);
        error("the ", true, 4);
        error("the one", true, 5);
        error("the key", true, 4);
        error("key", true, 0);
        error("one", true, 1);
        error("it", true, 0);
        error(Worlds.LONGEST, true, 60);
    }

    /** Four objects, two of them open containers, and five saved states. */
    private static AdventureParser beforeUndo() {
        AdventureParser p = Worlds.with("red box 0", "red key 0", "blue key 0", "red bag 4");
        Check.said(p, "open bag and box", 2);
        return p;
    }

    private static void comesBack(String what, Consumer<AdventureParser> call) {
        AdventureParser p = beforeUndo();
        String before = Trace.now(p);
        call.accept(p);
        Check.due(what + " changes something", Trace.now(p).equals(before), false);
        Check.due("undo of " + what, p.undo(), 5);
        String after = Trace.now(p);
        Check.due(what + " is undone: " + after + "; due is " + before, after.equals(before), true);
    }

    private static void everythingComesBack() {
        Check.sentence("Restores the state: everything except the buffer and the saved states");
        comesBack("addObject", p -> Worlds.add(p, "blue bag 0"));
        comesBack("addObject into a container", p -> Worlds.add(p, "red lamp 5"));
        comesBack("moveTo", p -> p.moveTo(3));
        String[] texts = {"east", "west", "close box", "close all", "take box", "take all",
            "put all in box", "drop it", "take lamp", "take key", "take red key and key"};
        for (String text : texts) {
            comesBack("'" + text + "'", p -> Check.say(p, text));
        }
    }

    private static void stateWithoutBuffer() {
        Check.sentence("The state consists of everything except the buffer and the saved states");
        AdventureParser p = new AdventureParser();
        Check.type(p, "east");
        p.moveTo(2);
        p.append(' ');
        Check.due("undo", p.undo(), 0);
        Check.due("the buffer stays", p.clearBuffer(), 5);
        Check.said(p, "east", 1);
        Check.due("undo of enter", p.undo(), 0);
        Check.due("the buffer stays empty", p.clearBuffer(), 0);
    }

    private static void savedEvenIfNothingChanges() {
        Check.sentence("saves the state from before the call, even if nothing changes");
        AdventureParser p = new AdventureParser();
        p.moveTo(0);
        Check.due("after moveTo to the same room", p.savedStates(), 1);
        Check.said(p, "west", 0);
        Check.due("after a walk to nowhere", p.savedStates(), 2);
        Check.said(p, "take it", -4);
        Check.due("after -4", p.savedStates(), 3);
        Check.said(p, "take all", -3);
        Check.due("after -3", p.savedStates(), 4);
        Check.said(p, "take key", -2);
        Check.due("after -2", p.savedStates(), 5);
        for (int left = 4; left >= 0; left--) {
            Check.due("undo", p.undo(), left);
        }
        Worlds.add(p, "red key 0");
        Worlds.add(p, "blue key 0");
        Check.due("after addObject", p.savedStates(), 2);
        Check.said(p, "take key", -1);
        Check.due("after -1", p.savedStates(), 3);
        Check.said(p, "old", -5);
        Check.due("after -5", p.savedStates(), 4);
        Check.said(p, "red", 1);
        Check.due("after an answer", p.savedStates(), 5);
    }

    private static void notSavedIfThrown() {
        Check.sentence("saves the state if it does not throw an exception");
        AdventureParser p = new AdventureParser();
        Check.index(p, "moveTo 4", () -> p.moveTo(4));
        Check.argument(p, "no such noun", () -> p.addObject(6, 0, 0));
        Check.unsaid(p, "take");
        Check.due("saved states", p.savedStates(), 0);
        Check.state(p, "undo", p::undo);
        for (int k = 0; k < 7; k++) {
            p.moveTo(k % 4);
        }
        Check.index(p, "moveTo -1", () -> p.moveTo(-1));
        Check.unsaid(p, "take");
        for (int left = 5; left >= 0; left--) {
            Check.due("undo", p.undo(), left);
            Check.due("room", p.room(), left % 4);
        }
    }

    private static void sixStates() {
        Check.sentence("At most 6 states are saved: none and 6");
        AdventureParser p = new AdventureParser();
        Check.due("none", p.savedStates(), 0);
        Check.state(p, "undo without a saved state", p::undo);
        for (int k = 1; k <= 6; k++) {
            Check.due("number " + k, Worlds.add(p, Texts.ADJECTIVES[k % 4] + " "
                    + Texts.NOUNS[k / 4] + " 0"), k - 1);
            Check.due("saved states", p.savedStates(), k);
        }
        for (int left = 5; left >= 0; left--) {
            Check.due("undo", p.undo(), left);
            Check.due("objects", p.objects(), left);
        }
        Check.state(p, "undo once more", p::undo);
    }

    private static void oneMoreState() {
        Check.sentence("when one more is saved, the oldest one is discarded");
        AdventureParser p = new AdventureParser();
        for (int k = 0; k < 7; k++) {
            Check.said(p, k % 2 == 0 ? "east" : "west", 1);
        }
        Check.due("saved states", p.savedStates(), 6);
        for (int left = 5; left >= 0; left--) {
            Check.due("undo", p.undo(), left);
            Check.due("executed", p.executed(), left + 1);
        }
        Check.due("the first walk stays", p.room(), 1);
        Check.state(p, "undo of what was discarded", p::undo);
        for (int k = 0; k < 20; k++) {
            p.moveTo(k % 4);
        }
        Check.due("saved states after 20 more", p.savedStates(), 6);
        for (int left = 5; left >= 0; left--) {
            Check.due("undo", p.undo(), left);
            Check.due("room", p.room(), (13 + left) % 4);
        }
        Check.state(p, "undo of what was discarded", p::undo);
    }

    private static void undoIsNotUndone() {
        Check.sentence("Restores the state that was saved last, and removes it from the saved states");
        AdventureParser p = new AdventureParser();
        p.moveTo(1);
        p.moveTo(2);
        p.moveTo(3);
        Check.due("undo", p.undo(), 2);
        Check.due("room", p.room(), 2);
        Check.due("undo", p.undo(), 1);
        Check.due("room", p.room(), 1);
        p.moveTo(3);
        Check.due("saved states", p.savedStates(), 2);
        Check.due("undo", p.undo(), 1);
        Check.due("room", p.room(), 1);
        Check.due("undo", p.undo(), 0);
        Check.due("room", p.room(), 0);
    }

    private BoundsOfQuestionsTest() {
    }
}
