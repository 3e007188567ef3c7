import java.util.HashMap;
import java.util.Map;

/** What the tests of the document's boundary sentences have in common. */
final class Edge {
    static final Check CHECK = new Check("EdgeTest");
    static final Sentences SENTENCES = new Sentences(CHECK);
    static final String SIX = "wrong 10; wrong 20; wrong 30; wrong 40; wrong 50; wrong 60; ";
    /** Never a wrongdoer's number; some would be, if only their last bits were looked at. */
    static final int[] NEVER = {
        Integer.MIN_VALUE, Integer.MIN_VALUE + 1, -32, -31, -9, -4, -3, -2, -1, 6, 7, 8, 31, 32, 33, 37, 64, 65536,
        Integer.MAX_VALUE - 1, Integer.MAX_VALUE};

    private static final Map<String, Told> UNTOUCHED = new HashMap<>();

    private Edge() { }

    static void promise(int number, String words) {
        SENTENCES.quote("Promise " + number, words);
    }

    static void whatItIs(String words) {
        SENTENCES.quote("What it is", words);
    }

    static void terms(String words) {
        SENTENCES.quote("Terms", words);
    }

    /** A run of calls on a new object, with what is due. */
    static Script run(String steps) {
        return new Script(CHECK, SENTENCES.quoted()).run(steps);
    }

    /** The call is answered so after these steps, and changes nothing that a later call tells. */
    static void refused(String steps, String call, String want) {
        Script script = run(steps + "; " + call + " = " + want);
        Told before = UNTOUCHED.computeIfAbsent(steps, s -> Told.by(run(s).object()));
        String differs = Told.by(script.object()).differsFrom(before);
        CHECK.holds(SENTENCES.quoted() + " | " + call + " after " + steps + " changes " + differs, differs == null);
        CHECK.holds("at most 512 calls, those of Told too", script.calls() + Told.CALLS <= Script.MOST_CALLS);
    }

    /** Nobody with that number is in the case: # stands for the number. */
    static void unknown(String call, String want) {
        for (int w : NEVER) {
            refused("", call.replace("#", "" + w), want);
            refused("loss 900; " + SIX, call.replace("#", "" + w), want);
        }
        for (int w = 0; w < 6; w++) {
            refused("", call.replace("#", "" + w), want);
            refused("loss 900; " + SIX + "leave " + w, call.replace("#", "" + w), want);
        }
        refused("loss 900; wrong 1; wrong 2; wrong 3; leave 1", call.replace("#", "3"), want);
    }

    /** The number in the place of # has these bounds. */
    static void outside(String steps, String call, int least, int most, String want) {
        int[] beyond = {Integer.MIN_VALUE, Integer.MIN_VALUE + 1, least - 1, most + 1, Integer.MAX_VALUE - 1,
            Integer.MAX_VALUE, least - 65536, most + 65536, most + 16777216};
        for (int v : beyond) {
            refused(steps, call.replace("#", "" + v), want);
        }
    }
}
