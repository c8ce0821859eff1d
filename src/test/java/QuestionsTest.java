/** Promises 14, 21, 22 and 25: questions, answers and forecasts. */
public final class QuestionsTest {
    public static void main(String[] args) {
        oneQuestion();
        answersThatDoNotFit();
        wordsOfAnswers();
        targetAndObject();
        sameWordsTwice();
        failureAfterAnswer();
        onlySuitableOnes();
        anotherCommand();
        closedByOtherMethods();
        keptByOtherCalls();
        undoneQuestions();
        forecasts();
        exceptsNeverAsk();
        Check.finish("QuestionsTest");
    }

    /** Two lamps here, two keys carried, two boxes here. */
    private static AdventureParser world() {
        AdventureParser p = new AdventureParser();
        p.addObject(0, 0, 0);
        p.addObject(0, 1, 0);
        p.addObject(2, 0, 4);
        p.addObject(2, 1, 4);
        p.addObject(1, 0, 0);
        p.addObject(1, 1, 0);
        return p;
    }

    private static void oneQuestion() {
        AdventureParser p = world();
        Check.said(p, "take lamp", -1);
        Check.due("asked", p.asked(), 1);
        Check.due("executed", p.executed(), 0);
        Check.due("failed", p.failed(), 0);
        Check.due("it", p.it(), -1);
        Check.said(p, "blue", 1);
        Check.due("place of the blue lamp", p.place(1), 4);
        Check.due("place of the red lamp", p.place(0), 0);
        Check.due("asked", p.asked(), 1);
        Check.due("executed", p.executed(), 1);
        Check.due("it", p.it(), 1);
        Check.unsaid(p, "red");
        Check.said(p, "take lamp", 1);
    }

    private static void answersThatDoNotFit() {
        AdventureParser p = world();
        Check.said(p, "take lamp", -1);
        Check.said(p, "old", -5);
        Check.said(p, "the big one", -5);
        Check.said(p, "red key", -5);
        Check.said(p, "red box", -5);
        Check.due("candidates", p.candidates(), 0b11);
        Check.due("asked", p.asked(), 1);
        Check.due("executed", p.executed(), 0);
        Check.due("failed", p.failed(), 0);
        Check.due("saved states", p.savedStates(), 6);
        Check.said(p, "red lamp", 1);
        Check.due("place of the red lamp", p.place(0), 4);
    }

    private static void wordsOfAnswers() {
        String[] answers = {"red", "the red", "red one", "the red one", "red lamp", "the red lamp"};
        for (String answer : answers) {
            AdventureParser p = world();
            Check.said(p, "take lamp", -1);
            Check.said(p, answer, 1);
            Check.due("it after '" + answer + "'", p.it(), 0);
        }
    }

    private static void targetAndObject() {
        AdventureParser p = world();
        Check.said(p, "open red box and blue box", 2);
        Check.said(p, "put key and key in box", -1);
        Check.due("the target is asked about first", p.candidates(), 0b110000);
        Check.said(p, "the blue one", -1);
        Check.due("then the first key", p.candidates(), 0b001100);
        Check.said(p, "red key", -1);
        Check.due("then the second key", p.candidates(), 0b001100);
        Check.due("asked", p.asked(), 3);
        Check.said(p, "old", -5);
        Check.said(p, "blue", 2);
        Check.due("place of the red key", p.place(2), 10);
        Check.due("place of the blue key", p.place(3), 10);
        Check.due("them", p.them(), 0b001100);
        Check.due("asked", p.asked(), 3);
        Check.due("executed", p.executed(), 2);
    }

    private static void sameWordsTwice() {
        AdventureParser p = world();
        Check.said(p, "take lamp and lamp", -1);
        Check.said(p, "red", -1);
        Check.due("candidates for the same words again", p.candidates(), 0b11);
        Check.said(p, "red", 1);
        Check.due("it after the same answer twice", p.it(), 0);
        Check.due("asked", p.asked(), 2);
        Check.said(p, "drop lamp", 1);
        Check.said(p, "take lamp and lamp and red lamp", -1);
        Check.said(p, "blue", -1);
        Check.said(p, "blue", 2);
    }

    private static void failureAfterAnswer() {
        AdventureParser p = world();
        Check.said(p, "take lamp and ball", -1);
        Check.said(p, "red", -2);
        Check.due("failed", p.failed(), 1);
        Check.due("asked", p.asked(), 1);
        Check.due("candidates after a failure", p.candidates(), 0);
        Check.due("place of the lamp", p.place(0), 0);
        Check.unsaid(p, "red");
        Check.said(p, "take lamp and key", -1);
        Check.said(p, "red", -3);
        Check.said(p, "open box", -1);
        Check.said(p, "red", 1);
        Check.said(p, "open lamp", -3);
    }

    private static void onlySuitableOnes() {
        AdventureParser p = world();
        Check.said(p, "take red lamp", 1);
        p.addObject(0, 2, 0);
        Check.said(p, "take lamp", -1);
        Check.due("candidates", p.candidates(), 0b1000010);
        Check.said(p, "red", -5);
        Check.said(p, "old", 1);
        Check.said(p, "open box", -1);
        Check.due("candidates for open", p.candidates(), 0b0110000);
        Check.said(p, "blue", 1);
        // Just one box is closed now, and just one is open.
        Check.said(p, "put key in box", -1);
        Check.due("candidates: the keys", p.candidates(), 0b0001100);
        Check.said(p, "red", 1);
        Check.due("place of the red key", p.place(2), 10);
        Check.said(p, "open box", 1);
    }

    private static void anotherCommand() {
        AdventureParser p = world();
        Check.said(p, "take lamp", -1);
        Check.said(p, "east", 1);
        Check.due("candidates after another command", p.candidates(), 0);
        Check.unsaid(p, "red");
        Check.said(p, "west", 1);
        Check.said(p, "take lamp and red box", -1);
        Check.said(p, "drop key", -1);
        Check.due("candidates of the new question", p.candidates(), 0b1100);
        Check.said(p, "blue", 1);
        Check.due("place of the blue key", p.place(3), 0);
        Check.due("place of the blue lamp", p.place(1), 0);
        Check.said(p, "take lamp", -1);
        Check.said(p, "take ball", -2);
        Check.due("candidates after a failure", p.candidates(), 0);
        Check.due("asked", p.asked(), 4);
        Check.said(p, "take lamp and lamp", -1);
        Check.said(p, "red", -1);
        Check.said(p, "take lamp and lamp", -1);
        Check.said(p, "blue", -1);
        Check.due("answers of the forgotten command are forgotten", p.candidates(), 0b11);
    }

    private static void closedByOtherMethods() {
        AdventureParser p = world();
        Check.said(p, "take lamp", -1);
        p.moveTo(0);
        Check.due("candidates after moveTo", p.candidates(), 0);
        Check.unsaid(p, "red");
        Check.said(p, "take lamp", -1);
        p.addObject(4, 0, 3);
        Check.due("candidates after addObject", p.candidates(), 0);
        Check.unsaid(p, "red");
        Check.said(p, "take lamp", -1);
        p.undo();
        Check.due("candidates after undo", p.candidates(), 0);
        Check.unsaid(p, "red");
    }

    private static void keptByOtherCalls() {
        AdventureParser p = world();
        Check.said(p, "take lamp", -1);
        Check.argument(p, "addObject", () -> p.addObject(6, 0, 0));
        Check.state(p, "addObject", () -> p.addObject(0, 0, 0));
        Check.index(p, "moveTo", () -> p.moveTo(4));
        Check.unsaid(p, "take");
        p.visible();
        p.digest();
        Check.due("candidates", p.candidates(), 0b11);
        Check.said(p, "red", 1);
    }

    private static void undoneQuestions() {
        AdventureParser p = world();
        Check.said(p, "open all", 2);
        Check.said(p, "put key in box", -1);
        Check.said(p, "blue", -1);
        Check.said(p, "old", -5);
        Check.said(p, "red", 1);
        Check.due("place of the red key", p.place(2), 10);
        p.undo();
        Check.due("candidates after undoing the last answer", p.candidates(), 0b001100);
        Check.said(p, "blue", 1);
        Check.due("place of the blue key", p.place(3), 10);
        Check.due("place of the red key", p.place(2), 4);
        p.undo();
        p.undo();
        p.undo();
        Check.due("candidates after undoing the first answer", p.candidates(), 0b110000);
        Check.due("asked", p.asked(), 1);
        Check.said(p, "red", -1);
        Check.said(p, "red", 1);
        Check.due("place of the red key in the red box", p.place(2), 9);
        // An answer that came after another command still finds its own command.
        AdventureParser q = world();
        Check.said(q, "take lamp", -1);
        Check.said(q, "drop key", -1);
        q.undo();
        Check.due("candidates of the first question", q.candidates(), 0b11);
        Check.said(q, "red", 1);
        Check.due("place of the red lamp", q.place(0), 4);
    }

    private static void forecasts() {
        AdventureParser p = world();
        Check.argument(p, "ifEntered of nothing", p::ifEntered);
        Check.type(p, "take lamp");
        Check.due("ifEntered", p.ifEntered(), -1);
        Check.due("ifEntered again", p.ifEntered(), -1);
        Check.due("candidates after ifEntered", p.candidates(), 0);
        Check.due("asked after ifEntered", p.asked(), 0);
        Check.due("enter", p.enter(), -1);
        Check.type(p, "red");
        Check.due("ifEntered of an answer", p.ifEntered(), 1);
        Check.due("place after ifEntered", p.place(0), 0);
        Check.due("candidates after ifEntered", p.candidates(), 0b11);
        Check.due("saved states after ifEntered", p.savedStates(), 6);
        Check.due("executed after ifEntered", p.executed(), 0);
        Check.type(p, "drop key");
        Check.due("ifEntered of another command", p.ifEntered(), -1);
        Check.said(p, "blue", 1);
        Check.due("the question's own command was kept", p.place(1), 4);
        Check.type(p, "east");
        Check.due("ifEntered of east", p.ifEntered(), 1);
        Check.due("room after ifEntered", p.room(), 0);
        Check.due("firstError after ifEntered", p.firstError(), 4);
    }

    private static void exceptsNeverAsk() {
        AdventureParser p = world();
        Check.said(p, "take all but lamp", 2);
        Check.due("them", p.them(), 0b110000);
        Check.said(p, "drop all but box", 2);
        Check.due("asked", p.asked(), 0);
    }

    private QuestionsTest() {
    }
}
