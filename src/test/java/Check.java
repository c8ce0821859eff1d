/** Counts and prints the answers that are not due; what every test is written with. */
final class Check {
    /** A call that may throw. */
    interface Call {
        void run();
    }

    private static int wrong;
    private static int checked;
    private static String sentence = "";

    private Check() {
    }

    /** Names the sentence of the document that the checks from here on stand for. */
    static void sentence(String text) {
        sentence = "[" + text + "] ";
    }

    static void due(String what, long got, long want) {
        checked++;
        if (got != want) {
            wrong++;
            if (wrong <= 40) {
                System.out.println(sentence + what + ": answered " + got + ", due is " + want);
            }
        }
    }

    static void due(String what, boolean got, boolean want) {
        due(what, got ? 1 : 0, want ? 1 : 0);
    }

    /** The name of the exception that the call throws, or "nothing". */
    private static String thrownBy(Call call) {
        try {
            call.run();
        } catch (RuntimeException e) {
            return e.getClass().getSimpleName();
        }
        return "nothing";
    }

    static void thrown(String what, Class<? extends RuntimeException> want, Call call) {
        String thrown = thrownBy(call);
        due(what + " throws " + thrown + " (due is " + want.getSimpleName() + ")",
                thrown.equals(want.getSimpleName()), true);
    }

    /** The call is due to throw exactly this class, and to leave the parser as it was. */
    static void refused(AdventureParser p, String what, Class<? extends RuntimeException> want,
            Call call) {
        long before = p.digest();
        int saved = p.savedStates();
        int firstError = p.firstError();
        thrown(what, want, call);
        due(what + ": digest afterwards", p.digest(), before);
        due(what + ": saved states afterwards", p.savedStates(), saved);
        due(what + ": first error afterwards", p.firstError(), firstError);
    }

    static void index(AdventureParser p, String what, Call call) {
        refused(p, what, IndexOutOfBoundsException.class, call);
    }

    static void argument(AdventureParser p, String what, Call call) {
        refused(p, what, IllegalArgumentException.class, call);
    }

    static void state(AdventureParser p, String what, Call call) {
        refused(p, what, IllegalStateException.class, call);
    }

    /** Puts a text into the buffer, in place of what stands there. */
    static void type(AdventureParser p, String text) {
        p.clearBuffer();
        for (int k = 0; k < text.length(); k++) {
            p.append(text.charAt(k));
        }
    }

    static int say(AdventureParser p, String text) {
        type(p, text);
        return p.enter();
    }

    /** The text is due to be entered with this result, which ifEntered() foretells. */
    static void said(AdventureParser p, String text, int want) {
        type(p, text);
        long before = p.digest();
        int saved = p.savedStates();
        due("ifEntered of '" + text + "'", p.ifEntered(), want);
        due("digest after ifEntered of '" + text + "'", p.digest(), before);
        due("saved states after ifEntered of '" + text + "'", p.savedStates(), saved);
        due("length after ifEntered of '" + text + "'", p.firstError(), text.length());
        due("'" + text + "'", p.enter(), want);
        due("buffer after '" + text + "'", p.clearBuffer(), 0);
    }

    /** The text is due to be no complete command or answer now. */
    static void unsaid(AdventureParser p, String text) {
        type(p, text);
        argument(p, "enter of '" + text + "'", p::enter);
        argument(p, "ifEntered of '" + text + "'", p::ifEntered);
        due("length after refusing '" + text + "'", p.clearBuffer(), text.length());
    }

    static void finish(String test) {
        System.out.println(test + ": " + checked + " checked, " + wrong + " wrong");
        if (wrong > 0) {
            System.exit(1);
        }
    }
}
