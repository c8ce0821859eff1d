import java.util.function.Supplier;

/** Everything that can be learnt of a parser, as a text. */
final class Trace {
    private Trace() {
    }

    /** What the parser answers now; it stays as it is. Takes some 110 calls. */
    static String now(AdventureParser p) {
        StringBuilder text = new StringBuilder();
        text.append("objects ").append(p.objects()).append(" room ").append(p.room());
        text.append(" visible ").append(p.visible()).append(" candidates ").append(p.candidates());
        text.append(" it ").append(p.it()).append(" them ").append(p.them());
        text.append(" counts ").append(p.executed()).append(' ').append(p.failed());
        text.append(' ').append(p.asked()).append(" saved ").append(p.savedStates());
        text.append(" digest ").append(p.digest()).append(" error ").append(p.firstError());
        text.append(" forecast ").append(forecast(p));
        for (int k = 0; k < p.objects(); k++) {
            text.append(" object ").append(p.noun(k)).append(' ').append(p.adjective(k));
            text.append(' ').append(p.place(k)).append(' ').append(p.isOpen(k));
        }
        for (int place = 0; place <= 16; place++) {
            text.append(" at ").append(p.objectsAt(place));
        }
        for (int verb = 0; verb <= 4; verb++) {
            text.append(" suitable ").append(p.suitable(verb));
        }
        for (int k = 0; k < 30; k++) {
            text.append(" fitting ").append(p.fitting(k / 5, k % 5 - 1));
        }
        return text.toString();
    }

    /** Enters what stands in the buffer, then undoes all, answering what questions come back. */
    static String toTheEnd(AdventureParser p) {
        StringBuilder text = new StringBuilder(now(p));
        text.append(" entered ").append(entered(p)).append(' ').append(p.digest());
        text.append(" length ").append(p.clearBuffer());
        answer(p, text);
        while (p.savedStates() > 0) {
            text.append(" undone ").append(p.undo()).append(' ').append(p.digest());
            if (p.savedStates() < 6) {
                answer(p, text);
            }
        }
        return text.toString();
    }

    /**
     * What the saved states and the open question's answer come to, by as few methods as can be: what
     * a call spoils in passing must not be spoilt in the other parser by looking.
     */
    static String briefly(AdventureParser p) {
        StringBuilder text = new StringBuilder();
        text.append("length ").append(p.clearBuffer());
        if (p.candidates() != 0) {
            p.appendWord(6);
            text.append(" red ").append(p.enter());
        }
        text.append(" digest ").append(p.digest());
        while (p.savedStates() > 0) {
            text.append(" undone ").append(p.undo()).append(' ').append(p.digest());
        }
        return text.toString();
    }

    /** Both parsers are due to tell the same of themselves, to the last saved state. */
    static void same(String what, Supplier<AdventureParser> parser, Supplier<AdventureParser> due) {
        same(what, toTheEnd(parser.get()), toTheEnd(due.get()));
        same(what, briefly(parser.get()), briefly(due.get()));
    }

    private static void same(String what, String told, String due) {
        Check.due(what + ": " + told + "; due is " + due, told.equals(due), true);
    }

    private static void answer(AdventureParser p, StringBuilder text) {
        if (p.candidates() != 0 && p.savedStates() < 6) {
            p.appendWord(6);
            text.append(" red ").append(p.enter()).append(' ').append(p.digest());
            p.undo();
        }
    }

    private static String forecast(AdventureParser p) {
        try {
            return String.valueOf(p.ifEntered());
        } catch (IllegalArgumentException e) {
            return "none";
        }
    }

    private static String entered(AdventureParser p) {
        try {
            return String.valueOf(p.enter());
        } catch (IllegalArgumentException e) {
            return "none";
        }
    }
}
