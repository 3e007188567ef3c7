/** Promises 1 to 13: the case. */
public final class CaseTest {
    private static final Check CHECK = new Check("CaseTest");

    public static void main(String[] args) {
        newObject();
        loss();
        claimant();
        wrong();
        leave();
        weight();
        broke();
        pair();
        part();
        settle();
        reopen();
        setting();
        ofWrong();
        CHECK.end();
    }

    private static void is(String call, long got, long want) {
        CHECK.is(call, got, want);
    }

    /** An object with these wrongdoers in the case. */
    private static SharedFault with(int... weights) {
        SharedFault x = new SharedFault();
        for (int w = 0; w < weights.length; w++) {
            is("wrong", x.wrong(weights[w]), w);
        }
        return x;
    }

    private static void newObject() {
        SharedFault x = new SharedFault();
        for (int what = 0; what <= 5; what++) {
            is("1 many " + what, x.many(what), 0);
        }
        for (int w = 0; w < 6; w++) {
            is("1 ofWrong " + w, x.ofWrong(w, 0), -1);
        }
        for (int what = 0; what <= 4; what++) {
            CHECK.share("1 amount " + what, x.amount(what, 0), x.amount(what, 1), 0, 1);
        }
        is("1 loss", x.loss(0), 0);
        is("1 claimant", x.claimant(0), 0);
        is("1 manner", x.setting(0, 0), 0);
        is("1 spread", x.setting(1, 0), 0);
        is("1 bar", x.setting(2, 100), 100);
        is("1 transfers", x.transfers(), 0);
        is("1 another object is its own", new SharedFault().wrong(1) + x.many(0), 0);
    }

    private static void loss() {
        SharedFault x = with(1);
        is("2 loss 1000000", x.loss(1000000), 0);
        is("2 loss -1", x.loss(-1), -2);
        is("2 loss 1000001", x.loss(1000001), -2);
        is("2 loss least int", x.loss(Integer.MIN_VALUE), -2);
        is("2 loss greatest int", x.loss(Integer.MAX_VALUE), -2);
        is("2 it counts, wrong ones do not", x.amount(0, 0), 1000000);
        is("2 loss 7", x.loss(7), 1000000);
        is("2 loss 0", x.loss(0), 7);
        is("2 loss 5", x.loss(5), 0);
    }

    private static void claimant() {
        SharedFault x = with(1);
        is("3 claimant 100", x.claimant(100), 0);
        is("3 claimant -1", x.claimant(-1), -2);
        is("3 claimant 101", x.claimant(101), -2);
        is("3 claimant least int", x.claimant(Integer.MIN_VALUE), -2);
        is("3 blame", x.many(4), 101);
        is("3 claimant 3", x.claimant(3), 100);
        is("3 claimant 0", x.claimant(0), 3);
        is("3 blame", x.many(4), 1);
    }

    private static void wrong() {
        SharedFault x = new SharedFault();
        is("4 wrong -1", x.wrong(-1), -2);
        is("4 wrong 101", x.wrong(101), -2);
        is("4 none came", x.many(0), 0);
        for (int w = 0; w < 6; w++) {
            is("4 wrong", x.wrong(w == 0 ? 0 : 100), w);
            is("4 not broke", x.ofWrong(w, 1), 0);
            is("4 no pair", x.ofWrong(w, 2), -9);
            is("4 open", x.ofWrong(w, 3), 0);
            is("4 not settled for", x.ofWrong(w, 4), -9);
            is("4 paid", x.ofWrong(w, 5), 0);
        }
        is("4 weight", x.ofWrong(0, 0), 0);
        is("4 weight", x.ofWrong(5, 0), 100);
        is("4 outside comes before full", x.wrong(101), -2);
        is("4 full", x.wrong(100), -4);
        is("4 leave", x.leave(4), 5);
        is("4 leave", x.leave(2), 4);
        is("4 the least number", x.wrong(7), 2);
        is("4 then the other", x.wrong(8), 4);
        is("4 weight", x.ofWrong(2, 0), 7);
        is("4 full again", x.wrong(0), -4);
    }

    private static void leave() {
        SharedFault x = with(10, 20, 30);
        for (int w : Cases.STRANGE) {
            is("5 leave " + w, x.leave(w), -1);
        }
        is("5 leave 3", x.leave(3), -1);
        x.loss(600);
        is("5 pay", x.pay(0, 50), 50);
        is("5 broke", x.broke(0, true), 1);
        is("5 leave 0", x.leave(0), 2);
        is("5 leave 0 again", x.leave(0), -1);
        is("5 what was paid went too", x.many(5), 0);
        is("5 blame", x.many(4), 50);
        is("5 pair", x.pair(1, 2), 1);
        is("5 settle", x.settle(2, 40), 1);
        is("5 leave 2", x.leave(2), 1);
        is("5 no pair", x.ofWrong(1, 2), -9);
        is("5 open", x.ofWrong(1, 3), 0);
        is("5 not settled for", x.ofWrong(1, 4), -9);
        is("5 comes back", x.wrong(5), 0);
        is("5 not broke any more", x.ofWrong(0, 1), 0);
        is("5 nothing paid any more", x.ofWrong(0, 5), 0);
        is("5 comes back", x.wrong(6), 2);
        is("5 no pair", x.ofWrong(2, 2), -9);
        is("5 open", x.ofWrong(2, 3), 0);
        is("5 the other can pair", x.pair(1, 0), 1);
        is("5 leave 1", x.leave(1), 2);
        is("5 leave 2", x.leave(2), 1);
        is("5 leave 0", x.leave(0), 0);
    }

    private static void weight() {
        SharedFault x = with(10, 20);
        for (int w : Cases.STRANGE) {
            is("6 weight of " + w, x.weight(w, 101), -1);
        }
        is("6 unknown comes before outside", x.weight(2, -1), -1);
        is("6 weight -1", x.weight(1, -1), -2);
        is("6 weight 101", x.weight(1, 101), -2);
        is("6 weight 100", x.weight(1, 100), 20);
        is("6 weight 0", x.weight(1, 0), 100);
        is("6 weight 3", x.weight(1, 3), 0);
        is("6 weight now", x.ofWrong(1, 0), 3);
        is("6 the other's", x.ofWrong(0, 0), 10);
        is("6 settle", x.settle(1, 1), 1);
        is("6 of a settled one", x.weight(1, 9), 3);
    }

    private static void broke() {
        SharedFault x = with(10, 20);
        for (int w : Cases.STRANGE) {
            is("7 broke " + w, x.broke(w, true), -1);
        }
        is("7 was not", x.broke(0, false), 0);
        is("7 becomes", x.broke(0, true), 1);
        is("7 was so", x.broke(0, true), 0);
        is("7 is", x.ofWrong(0, 1), 1);
        is("7 the other is not", x.ofWrong(1, 1), 0);
        is("7 no more", x.broke(0, false), 1);
        is("7 is not", x.ofWrong(0, 1), 0);
        is("7 was so", x.broke(0, false), 0);
    }

    private static void pair() {
        SharedFault x = with(1, 2, 3, 4, 5, 6);
        for (int w : Cases.STRANGE) {
            is("8 pair 0 with " + w, x.pair(0, w), -1);
            is("8 pair " + w + " with 0", x.pair(w, 0), -1);
        }
        is("8 with itself", x.pair(2, 2), -1);
        is("8 pair", x.pair(3, 1), 1);
        is("8 the other one", x.ofWrong(3, 2), 1);
        is("8 the other one", x.ofWrong(1, 2), 3);
        is("8 units", x.many(1), 5);
        is("8 again", x.pair(1, 3), -3);
        is("8 the first is in one", x.pair(1, 0), -3);
        is("8 the second is in one", x.pair(0, 3), -3);
        is("8 itself comes before state", x.pair(1, 1), -1);
        is("8 settle", x.settle(4, 0), 1);
        is("8 the first is settled", x.pair(4, 5), -3);
        is("8 the second is settled", x.pair(5, 4), -3);
        is("8 others", x.pair(0, 5), 1);
        is("8 leave", x.leave(2), 5);
        is("8 who left", x.pair(4, 2), -1);
        is("8 unknown comes before state", x.pair(2, 1), -1);
        is("8 reopen", x.reopen(4), 0);
        is("8 comes back", x.wrong(3), 2);
        is("8 pair", x.pair(4, 2), 1);
        is("8 units", x.many(1), 3);
    }

    private static void part() {
        SharedFault x = with(1, 2, 3);
        for (int w : Cases.STRANGE) {
            is("9 part " + w, x.part(w), -1);
        }
        is("9 in none", x.part(0), -3);
        is("9 pair", x.pair(0, 2), 1);
        is("9 settle", x.settle(2, 9), 1);
        is("9 settled", x.part(0), -3);
        is("9 settled", x.part(2), -3);
        is("9 reopen", x.reopen(0), 9);
        is("9 part", x.part(2), 1);
        is("9 in none", x.ofWrong(0, 2), -9);
        is("9 in none", x.ofWrong(2, 2), -9);
        is("9 units", x.many(1), 3);
        is("9 again", x.part(2), -3);
        is("9 again", x.part(0), -3);
        is("9 pair with another", x.pair(0, 1), 1);
    }

    private static void settle() {
        SharedFault x = with(10, 20, 30, 40);
        x.loss(1000);
        for (int w : Cases.STRANGE) {
            is("10 settle " + w, x.settle(w, -1), -1);
        }
        is("10 less than least", x.settle(0, -1), -2);
        is("10 more than most", x.settle(0, 1000001), -2);
        is("10 least", x.settle(0, 0), 1);
        is("10 settled", x.settle(0, 1), -3);
        is("10 outside comes before state", x.settle(0, -1), -2);
        is("10 for 0", x.ofWrong(0, 4), 0);
        is("10 most", x.settle(1, 1000000), 1);
        is("10 for the most", x.ofWrong(1, 4), 1000000);
        is("10 reopen", x.reopen(1), 1000000);
        is("10 pair", x.pair(2, 3), 1);
        is("10 pay", x.pay(3, 1), 1);
        is("10 the other of it has paid", x.settle(2, 5), -3);
        is("10 it has paid", x.settle(3, 5), -3);
        is("10 nothing changed", x.ofWrong(2, 3), 0);
        is("10 refund", x.refund(3), 1);
        is("10 settle the pair", x.settle(3, 5), 1);
        is("10 both", x.ofWrong(2, 4), 5);
        is("10 both", x.ofWrong(3, 4), 5);
        is("10 the pair is one", x.settle(2, 6), -3);
        is("10 settled units", x.many(2), 2);
    }

    private static void reopen() {
        SharedFault x = with(10, 20, 30);
        for (int w : Cases.STRANGE) {
            is("11 reopen " + w, x.reopen(w), -1);
        }
        is("11 open", x.reopen(0), -3);
        is("11 pair", x.pair(0, 1), 1);
        is("11 settle", x.settle(0, 70), 1);
        is("11 settle", x.settle(2, 0), 1);
        is("11 by the other of it", x.reopen(1), 70);
        is("11 both open", x.ofWrong(0, 3), 0);
        is("11 both open", x.ofWrong(1, 3), 0);
        is("11 again", x.reopen(0), -3);
        is("11 still a pair", x.ofWrong(0, 2), 1);
        is("11 the other unit stays", x.ofWrong(2, 3), 1);
        is("11 that for 0", x.reopen(2), 0);
    }

    private static void setting() {
        SharedFault x = new SharedFault();
        int[] most = {2, 2, 100};
        int[] first = {0, 0, 100};
        for (int k = 0; k < 3; k++) {
            is("12 below " + k, x.setting(k, -1), -2);
            is("12 above " + k, x.setting(k, most[k] + 1), -2);
            is("12 most " + k, x.setting(k, most[k]), first[k]);
            is("12 least " + k, x.setting(k, 0), most[k]);
            is("12 one " + k, x.setting(k, 1), 0);
        }
        for (int k = 0; k < 3; k++) {
            is("12 each its own " + k, x.setting(k, 2), 1);
        }
        is("12 no setting 3", x.setting(3, 0), -2);
        for (int k : Cases.STRANGE) {
            is("12 no setting " + k, x.setting(k, 0), -2);
        }
    }

    private static void ofWrong() {
        SharedFault x = with(10, 20, 30);
        x.loss(1000);
        for (int w : Cases.STRANGE) {
            is("13 of " + w, x.ofWrong(w, 0), -1);
            is("13 unknown comes before outside", x.ofWrong(w, 6), -1);
        }
        is("13 what -1", x.ofWrong(0, -1), -2);
        is("13 what 6", x.ofWrong(0, 6), -2);
        x.pay(0, 12);
        x.broke(0, true);
        x.pair(1, 2);
        x.settle(1, 44);
        int[][] wants = {{10, 1, -9, 0, -9, 12}, {20, 0, 2, 1, 44, 0}, {30, 0, 1, 1, 44, 0}};
        for (int w = 0; w < 3; w++) {
            for (int what = 0; what < 6; what++) {
                is("13 of " + w + " what " + what, x.ofWrong(w, what), wants[w][what]);
            }
        }
    }
}
