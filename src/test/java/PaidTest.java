/** Promises 23 to 30: what was paid. */
public final class PaidTest {
    private static final Check CHECK = new Check("PaidTest");

    public static void main(String[] args) {
        pay();
        payToTheFraction();
        refund();
        fair();
        over();
        transfers();
        manyTransfers();
        eachAlone();
        noTransfers();
        many();
        CHECK.end();
    }

    private static void is(String call, long got, long want) {
        CHECK.is(call, got, want);
    }

    private static void pay() {
        SharedFault x = Cases.with(1000000, 0, 50, 50, 0);
        for (int w : Cases.STRANGE) {
            is("23 pay " + w, x.pay(w, 0), -1);
        }
        is("23 pay 3", x.pay(3, 1), -1);
        is("23 nothing", x.pay(0, 0), -2);
        is("23 less", x.pay(0, -1), -2);
        is("23 more than most", x.pay(0, 1000001), -2);
        is("23 most", x.pay(0, 1000000), 1000000);
        is("23 one more", x.pay(1, 1), -3);
        is("23 far more", x.pay(1, 1000000), -3);
        is("23 refund", x.refund(0), 1000000);
        is("23 least", x.pay(0, 1), 1);
        is("23 more", x.pay(0, 999), 1000);
        is("23 who owes nothing may", x.pay(2, 5), 5);
        is("23 broke", x.broke(0, true), 1);
        is("23 is broke", x.pay(0, 1), -3);
        is("23 outside comes before state", x.pay(0, 0), -2);
        is("23 settle", x.settle(1, 10), 1);
        is("23 is settled", x.pay(1, 1), -3);
        is("23 what was paid stays", x.ofWrong(0, 5), 1000);
        is("23 nothing changed", x.ofWrong(1, 5), 0);
        x.weight(2, 50);
        is("23 the settled one, though much is due", x.pay(1, 1), -3);
        is("23 much is due", x.pay(2, 1), 6);
        SharedFault pair = Cases.with(100, 0, 10, 10, 20);
        pair.pair(0, 1);
        pair.broke(0, true);
        is("23 the other of it is broke", pair.pay(1, 100), 100);
        pair.loss(50);
        is("23 already too much", pair.pay(2, 1), -3);
    }

    private static void payToTheFraction() {
        SharedFault x = Cases.with(100, 1, 1, 1);
        CHECK.share("dues", x.amount(4, 0), x.amount(4, 1), 200, 3);
        is("23 67 is more than 200/3", x.pay(0, 67), -3);
        is("23 66 is not", x.pay(0, 66), 66);
        is("23 67 in all", x.pay(1, 1), -3);
        SharedFault odd = Cases.with(200, 0, 1, 1);
        is("23 all of it", odd.pay(0, 150), 150);
        is("23 all of it", odd.pay(1, 50), 50);
        is("23 more", odd.pay(1, 1), -3);
    }

    private static void refund() {
        SharedFault x = Cases.with(1000, 0, 10, 10);
        for (int w : Cases.STRANGE) {
            is("24 refund " + w, x.refund(w), -1);
        }
        is("24 nothing", x.refund(0), -3);
        x.pay(0, 30);
        x.pay(0, 40);
        x.pay(1, 5);
        is("24 the other's", x.refund(1), 5);
        x.broke(0, true);
        is("24 of one that is broke", x.refund(0), 70);
        is("24 nothing is left", x.ofWrong(0, 5), 0);
        is("24 nothing in all", x.many(5), 0);
        is("24 again", x.refund(0), -3);
    }

    private static void fairOf(SharedFault x, int w, long up, long down) {
        CHECK.share("25 fair " + w, x.fair(w, 0), x.fair(w, 1), up, down);
    }

    private static void fair() {
        SharedFault x = Cases.with(1000, 5, 10, 20, 40, 10);
        fairOf(x, 0, 0, 1);
        x.pay(0, 100);
        x.pay(1, 50);
        fairOf(x, 0, 75, 4);
        fairOf(x, 1, 75, 2);
        fairOf(x, 2, 75, 1);
        x.broke(2, true);
        fairOf(x, 2, 0, 1);
        fairOf(x, 0, 75, 2);
        x.pair(2, 3);
        fairOf(x, 3, 375, 4);
        fairOf(x, 2, 0, 1);
        x.setting(1, 1);
        fairOf(x, 0, 75, 4);
        x.settle(3, 10);
        fairOf(x, 3, 0, 1);
        fairOf(x, 1, 100, 1);
        x.loss(0);
        fairOf(x, 1, 0, 1);
        SharedFault little = Cases.with(1, 0, 10, 20);
        little.pay(1, 1);
        fairOf(little, 0, 1, 3);
        fairOf(little, 1, 2, 3);
        for (int w : Cases.STRANGE) {
            is("25 fair " + w, x.fair(w, 0), Cases.LOST);
        }
        is("25 fair 4", x.fair(4, 0), Cases.LOST);
        for (int which : Cases.NO_WHICH) {
            is("25 which " + which, x.fair(0, which), Cases.LOST);
        }
    }

    private static void overOf(SharedFault x, int w, long up, long down) {
        CHECK.share("26 over " + w, x.over(w, 0), x.over(w, 1), up, down);
    }

    private static void over() {
        SharedFault x = Cases.with(1000, 5, 10, 20, 40, 10);
        overOf(x, 0, 0, 1);
        x.pay(0, 100);
        x.pay(1, 50);
        overOf(x, 0, 325, 4);
        overOf(x, 1, 25, 2);
        overOf(x, 2, -75, 1);
        overOf(x, 3, -75, 4);
        x.broke(0, true);
        overOf(x, 0, 100, 1);
        x.loss(0);
        overOf(x, 0, 100, 1);
        overOf(x, 1, 50, 1);
        overOf(x, 2, 0, 1);
        for (int w : Cases.STRANGE) {
            is("26 over " + w, x.over(w, 0), Cases.LOST);
        }
        is("26 over 4", x.over(4, 1), Cases.LOST);
        for (int which : Cases.NO_WHICH) {
            is("26 which " + which, x.over(0, which), Cases.LOST);
        }
    }

    private static void transferIs(SharedFault x, int k, int giver, int taker, long up, long down) {
        is("28 giver of " + k, x.transfer(k, 0), giver);
        is("28 taker of " + k, x.transfer(k, 1), taker);
        CHECK.share("29 given " + k, x.given(k, 0), x.given(k, 1), up, down);
    }

    private static void endsAt(SharedFault x, int count) {
        is("27 transfers", x.transfers(), count);
        for (int k : new int[] {count, count + 1, 6, 7, Integer.MAX_VALUE}) {
            is("28 none " + k, x.transfer(k, 0), -9);
            is("28 none " + k, x.transfer(k, 1), -9);
            is("29 none " + k, x.given(k, 0), Cases.LOST);
            is("29 none " + k, x.given(k, 1), Cases.LOST);
        }
    }

    private static void transfers() {
        SharedFault x = Cases.with(1000, 5, 10, 20, 40, 10);
        x.pay(0, 100);
        x.pay(1, 50);
        endsAt(x, 3);
        transferIs(x, 0, 2, 0, 75, 1);
        transferIs(x, 1, 3, 0, 25, 4);
        transferIs(x, 2, 3, 1, 25, 2);
        x.refund(0);
        x.refund(1);
        x.pay(2, 80);
        endsAt(x, 3);
        transferIs(x, 0, 0, 2, 10, 1);
        transferIs(x, 1, 1, 2, 20, 1);
        transferIs(x, 2, 3, 2, 10, 1);
        x.pay(3, 10);
        x.pay(0, 10);
        x.pay(1, 20);
        x.refund(2);
        x.pay(2, 40);
        endsAt(x, 0);
        is("28 k -1", x.transfer(-1, 0), -2);
        is("28 k least", x.transfer(Integer.MIN_VALUE, 0), -2);
        for (int which : Cases.NO_WHICH) {
            is("28 what comes before none", x.transfer(9, which), -2);
            is("28 what", x.transfer(0, which), -2);
            is("29 which", x.given(0, which), Cases.LOST);
        }
        is("29 k -1", x.given(-1, 0), Cases.LOST);
        is("29 k least", x.given(Integer.MIN_VALUE, 1), Cases.LOST);
    }

    /** A giver and a taker that are even at once are left out both. */
    private static void manyTransfers() {
        SharedFault x = Cases.with(1000, 0, 10, 10, 10, 10, 10, 10);
        x.pay(1, 20);
        x.pay(3, 25);
        x.pay(5, 15);
        endsAt(x, 4);
        transferIs(x, 0, 0, 1, 10, 1);
        transferIs(x, 1, 2, 3, 10, 1);
        transferIs(x, 2, 4, 3, 5, 1);
        transferIs(x, 3, 4, 5, 5, 1);
        x.refund(1);
        x.refund(3);
        x.refund(5);
        x.pay(0, 10);
        endsAt(x, 5);
        for (int k = 0; k < 5; k++) {
            transferIs(x, k, k + 1, 0, 5, 3);
        }
    }

    /** Each question on its own: none may lean on an earlier one. */
    private static void eachAlone() {
        SharedFault x = Cases.with(1000, 0, 10, 10, 10);
        x.leave(0);
        x.pay(1, 1);
        is("28 first asked", x.transfer(0, 0), 2);
        x.refund(1);
        x.pay(2, 3);
        is("28 asked after a change", x.transfer(0, 1), 2);
        x.refund(2);
        is("29 asked after a change", x.given(0, 0), Cases.LOST);
        x.pay(1, 5);
        is("29 asked after a change", x.given(0, 0), 5);
        is("29 asked again", x.given(0, 1), 2);
        for (int which : Cases.NO_WHICH) {
            is("28 there is one, but no such what", x.transfer(0, which), -2);
            is("29 there is one, but no such which", x.given(0, which), Cases.LOST);
        }
        is("29 there is one, but not before it", x.given(-1, 0), Cases.LOST);
        SharedFault fresh = Cases.with(1000, 0, 10, 20);
        fresh.pay(0, 1);
        CHECK.share("29 first asked", fresh.given(0, 0), fresh.given(0, 1), 2, 3);
        // the taker has 1 by 30 too much, the least there can be
        SharedFault least = Cases.with(1000, 0, 10, 19, 1);
        least.pay(0, 10);
        least.pay(1, 19);
        endsAt(least, 2);
        transferIs(least, 0, 2, 0, 1, 3);
        transferIs(least, 1, 2, 1, 19, 30);
        SharedFault one = Cases.with(1000, 0, 1, 29);
        one.pay(1, 1);
        endsAt(one, 1);
        transferIs(one, 0, 0, 1, 1, 30);
    }

    private static void noTransfers() {
        SharedFault x = Cases.with(1000, 0, 10, 10);
        endsAt(x, 0);
        x.pay(0, 100);
        endsAt(x, 1);
        x.loss(0);
        endsAt(x, 0);
    }

    private static void manyAre(SharedFault x, int... wants) {
        for (int what = 0; what < wants.length; what++) {
            is("30 many " + what, x.many(what), wants[what]);
        }
    }

    private static void many() {
        SharedFault x = Cases.with(1000, 7, 10, 20, 30, 40, 50, 60);
        manyAre(x, 6, 6, 0, 0, 217, 0);
        x.pair(4, 1);
        manyAre(x, 6, 5, 0, 0, 217, 0);
        x.broke(1, true);
        x.broke(3, true);
        manyAre(x, 6, 5, 0, 1, 217, 0);
        x.broke(4, true);
        manyAre(x, 6, 5, 0, 2, 217, 0);
        x.settle(1, 20);
        manyAre(x, 6, 5, 1, 1, 217, 0);
        x.settle(3, 20);
        manyAre(x, 6, 5, 2, 0, 217, 0);
        x.pay(0, 12);
        x.pay(2, 13);
        manyAre(x, 6, 5, 2, 0, 217, 25);
        x.leave(1);
        manyAre(x, 5, 5, 1, 1, 197, 25);
        x.leave(0);
        manyAre(x, 4, 4, 1, 1, 187, 13);
        is("30 what -1", x.many(-1), -2);
        is("30 what 6", x.many(6), -2);
        is("30 what greatest", x.many(Integer.MAX_VALUE), -2);
    }
}
