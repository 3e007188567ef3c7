/**
 * All that an object tells: what every question answers, what changes answer then, and what the questions
 * answer after these. Two objects that have been dealt with alike tell the same; the object is used up by it.
 */
final class Told {
    /** As many calls as this are asked, so a test has some 120 left for what it tests. */
    static final int CALLS = 387;

    private final SharedFault x;
    private final String[] names = new String[CALLS];
    private final long[] answers = new long[CALLS];
    private int count;

    private Told(SharedFault x) {
        this.x = x;
    }

    static Told by(SharedFault x) {
        Told told = new Told(x);
        told.askAll();
        told.changeAll();
        told.askAll();
        return told;
    }

    /** The first question that both answer otherwise; null if they tell the same. */
    String differsFrom(Told other) {
        for (int k = 0; k < Math.max(count, other.count); k++) {
            if (answers[k] != other.answers[k]) {
                return "answer " + k + ", of " + names[k] + ": " + answers[k] + ", not " + other.answers[k];
            }
        }
        return null;
    }

    private void note(String name, long answer) {
        names[count] = name;
        answers[count] = answer;
        count++;
    }

    private void askAll() {
        for (int w = 0; w < 6; w++) {
            for (int what = 0; what < 6; what++) {
                note("ofWrong", x.ofWrong(w, what));
            }
        }
        for (int which = 0; which < 2; which++) {
            for (int what = 0; what < 5; what++) {
                note("amount", x.amount(what, which));
            }
            for (int w = 0; w < 6; w++) {
                askOf(w, which);
            }
            for (int k = 0; k < 9; k++) {
                note("gets", x.gets(k / 3, k % 3, which));
            }
            for (int k = 0; k < 5; k++) {
                note("given", x.given(k, which));
                note("transfer", x.transfer(k, which));
            }
        }
        for (int what = 0; what < 6; what++) {
            note("many", x.many(what));
        }
        note("bestManner", x.bestManner());
        note("owe", x.owe());
        note("transfers", x.transfers());
    }

    private void askOf(int w, int which) {
        note("credit", x.credit(w, which));
        note("unitDue", x.unitDue(w, which));
        note("due", x.due(w, which));
        note("saves", x.saves(w, 17, which));
        note("misses", x.misses(w, which));
        note("fair", x.fair(w, which));
        note("over", x.over(w, which));
    }

    /** Brings to light what stands behind a settlement, a pair, a payment, a setting. */
    private void changeAll() {
        for (int w = 0; w < 6; w++) {
            note("reopen", x.reopen(w));
            note("refund", x.refund(w));
            note("part", x.part(w));
            note("broke", x.broke(w, false));
        }
        note("loss", x.loss(1000));
        note("claimant", x.claimant(7));
        note("setting", x.setting(0, 1));
        note("setting", x.setting(1, 1));
        note("setting", x.setting(2, 50));
        note("wrong", x.wrong(9));
        note("settle", x.settle(2, 11));
        note("broke", x.broke(1, true));
        note("pay", x.pay(0, 3));
    }
}
