/** Promises 14 to 22: what is owed. */
public final class OwedTest {
    private static final Check CHECK = new Check("OwedTest");

    public static void main(String[] args) {
        amountEntitled();
        amountCredits();
        amountMissed();
        amountRefused();
        credit();
        unitDue();
        due();
        gets();
        bestManner();
        saves();
        misses();
        owe();
        greatest();
        CHECK.end();
    }

    private static void is(String call, long got, long want) {
        CHECK.is(call, got, want);
    }

    private static void amount(SharedFault x, int what, long up, long down) {
        CHECK.share("14 amount " + what, x.amount(what, 0), x.amount(what, 1), up, down);
    }

    private static void amountEntitled() {
        SharedFault x = Cases.with(1000, 30, 40);
        amount(x, 0, 4000, 7);
        x.setting(2, 42);
        amount(x, 0, 0, 1);
        amount(x, 4, 0, 1);
        x.setting(2, 43);
        amount(x, 0, 4000, 7);
        x.claimant(40);
        x.setting(2, 50);
        amount(x, 0, 500, 1);
        x.setting(2, 49);
        amount(x, 0, 0, 1);
        x.claimant(0);
        x.setting(2, 0);
        amount(x, 0, 1000, 1);
        x.claimant(1);
        amount(x, 0, 0, 1);
        x.setting(2, 100);
        x.weight(0, 0);
        amount(x, 0, 0, 1);
        x.claimant(0);
        amount(x, 0, 0, 1);
        is("14 no blame", x.many(4), 0);
        x.claimant(100);
        x.weight(0, 1);
        x.setting(2, 99);
        amount(x, 0, 0, 1);
        x.setting(2, 100);
        amount(x, 0, 1000, 101);
    }

    private static void amountCredits() {
        SharedFault x = Cases.with(1000, 10, 20, 30, 40);
        x.settle(0, 150);
        x.settle(1, 350);
        long[][] credits = {{500, 1}, {500, 1}, {550, 1}};
        long[][] rests = {{400, 1}, {400, 1}, {350, 1}};
        for (int manner = 0; manner < 3; manner++) {
            x.setting(0, manner);
            amount(x, 0, 900, 1);
            amount(x, 1, credits[manner][0], credits[manner][1]);
            amount(x, 2, rests[manner][0], rests[manner][1]);
            amount(x, 3, 0, 1);
            amount(x, 4, rests[manner][0], rests[manner][1]);
        }
        x.setting(0, 0);
        x.reopen(0);
        x.settle(0, 1000000);
        amount(x, 1, 1000350, 1);
        amount(x, 2, 0, 1);
        amount(x, 4, 0, 1);
        x.reopen(0);
        x.reopen(1);
        x.pair(0, 1);
        x.settle(0, 77);
        amount(x, 1, 77, 1);
        x.setting(0, 1);
        amount(x, 1, 500, 1);
    }

    private static void amountMissed() {
        SharedFault x = Cases.with(1200, 10, 10, 20, 20);
        x.broke(2, true);
        amount(x, 2, 1000, 1);
        amount(x, 3, 0, 1);
        amount(x, 4, 1000, 1);
        x.setting(1, 1);
        amount(x, 3, 100, 1);
        amount(x, 4, 900, 1);
        x.setting(1, 2);
        amount(x, 3, 400, 1);
        amount(x, 4, 600, 1);
        x.broke(0, true);
        x.broke(1, true);
        for (int spread = 0; spread < 3; spread++) {
            x.setting(1, spread);
            amount(x, 3, 1000, 1);
            amount(x, 4, 0, 1);
        }
        x.claimant(0);
        for (int spread = 0; spread < 3; spread++) {
            x.setting(1, spread);
            amount(x, 3, 1200, 1);
        }
        SharedFault left = Cases.with(90, 0, 10, 0);
        left.settle(0, 40);
        amount(left, 2, 50, 1);
        amount(left, 3, 50, 1);
        amount(left, 4, 0, 1);
        left.leave(1);
        amount(left, 3, 50, 1);
    }

    private static void amountRefused() {
        SharedFault x = Cases.with(1000, 0, 10);
        for (int which : Cases.NO_WHICH) {
            for (int what = 0; what < 5; what++) {
                is("14 which " + which, x.amount(what, which), Cases.LOST);
            }
        }
        is("14 what -1", x.amount(-1, 0), Cases.LOST);
        is("14 what 5", x.amount(5, 1), Cases.LOST);
        is("14 what least", x.amount(Integer.MIN_VALUE, 0), Cases.LOST);
        is("LOST", SharedFault.LOST, Cases.LOST);
    }

    private static void creditOf(SharedFault x, int w, long up, long down) {
        CHECK.share("15 credit " + w, x.credit(w, 0), x.credit(w, 1), up, down);
    }

    private static void credit() {
        SharedFault x = Cases.with(1000, 10, 20, 30, 10);
        creditOf(x, 0, 0, 1);
        x.pair(0, 1);
        x.settle(1, 700);
        creditOf(x, 0, 700, 1);
        creditOf(x, 1, 700, 1);
        creditOf(x, 2, 0, 1);
        x.setting(0, 1);
        creditOf(x, 0, 5000, 7);
        creditOf(x, 1, 5000, 7);
        x.setting(0, 2);
        creditOf(x, 0, 5000, 7);
        x.reopen(0);
        x.settle(0, 715);
        creditOf(x, 0, 715, 1);
        x.claimant(0);
        for (int w = 0; w < 3; w++) {
            x.weight(w, 0);
        }
        creditOf(x, 0, 715, 1);
        x.setting(0, 1);
        creditOf(x, 0, 0, 1);
        x.setting(0, 0);
        creditOf(x, 0, 715, 1);
        for (int w : Cases.STRANGE) {
            is("15 credit " + w, x.credit(w, 0), Cases.LOST);
        }
        is("15 credit 3", x.credit(3, 0), Cases.LOST);
        for (int which : Cases.NO_WHICH) {
            is("15 which " + which, x.credit(0, which), Cases.LOST);
        }
    }

    private static void unitDueOf(SharedFault x, int w, long up, long down) {
        CHECK.share("16 unitDue " + w, x.unitDue(w, 0), x.unitDue(w, 1), up, down);
    }

    private static void unitDue() {
        SharedFault x = Cases.with(1200, 10, 10, 20, 20);
        x.pair(0, 1);
        unitDueOf(x, 0, 600, 1);
        unitDueOf(x, 1, 600, 1);
        unitDueOf(x, 2, 400, 1);
        x.broke(0, true);
        unitDueOf(x, 0, 600, 1);
        x.broke(1, true);
        unitDueOf(x, 0, 0, 1);
        unitDueOf(x, 1, 0, 1);
        unitDueOf(x, 2, 1000, 1);
        x.setting(1, 1);
        unitDueOf(x, 2, 800, 1);
        x.setting(1, 2);
        unitDueOf(x, 2, 400, 1);
        x.settle(0, 500);
        unitDueOf(x, 0, 0, 1);
        unitDueOf(x, 2, 500, 1);
        for (int w : Cases.STRANGE) {
            is("16 unitDue " + w, x.unitDue(w, 0), Cases.LOST);
        }
        is("16 unitDue 3", x.unitDue(3, 1), Cases.LOST);
        for (int which : Cases.NO_WHICH) {
            is("16 which " + which, x.unitDue(0, which), Cases.LOST);
        }
    }

    private static void dueOf(SharedFault x, int w, long up, long down) {
        CHECK.share("17 due " + w, x.due(w, 0), x.due(w, 1), up, down);
    }

    private static void due() {
        SharedFault x = Cases.with(100, 1, 1, 2, 3);
        dueOf(x, 2, 300, 7);
        x.pair(0, 1);
        dueOf(x, 0, 100, 7);
        dueOf(x, 1, 200, 7);
        x.broke(0, true);
        dueOf(x, 0, 0, 1);
        dueOf(x, 1, 300, 7);
        x.broke(0, false);
        x.broke(1, true);
        dueOf(x, 0, 300, 7);
        dueOf(x, 1, 0, 1);
        x.broke(1, false);
        x.broke(2, true);
        dueOf(x, 0, 200, 7);
        dueOf(x, 1, 400, 7);
        dueOf(x, 2, 0, 1);
        x.setting(1, 1);
        dueOf(x, 0, 25, 1);
        dueOf(x, 1, 50, 1);
        x.weight(0, 0);
        x.weight(1, 0);
        dueOf(x, 0, 0, 1);
        dueOf(x, 1, 0, 1);
        x.weight(1, 2);
        dueOf(x, 0, 0, 1);
        x.settle(0, 1);
        dueOf(x, 1, 0, 1);
        for (int w : Cases.STRANGE) {
            is("17 due " + w, x.due(w, 0), Cases.LOST);
        }
        is("17 due 3", x.due(3, 1), Cases.LOST);
        for (int which : Cases.NO_WHICH) {
            is("17 which " + which, x.due(0, which), Cases.LOST);
        }
    }

    private static void getsBy(SharedFault x, int manner, int spread, long up, long down) {
        CHECK.share("18 gets " + manner + " " + spread, x.gets(manner, spread, 0), x.gets(manner, spread, 1), up, down);
    }

    private static void gets() {
        SharedFault x = Cases.with(1200, 20, 20, 10, 10);
        getsBy(x, 0, 0, 800, 1);
        x.settle(0, 500);
        x.broke(1, true);
        getsBy(x, 0, 0, 800, 1);
        getsBy(x, 0, 1, 700, 1);
        getsBy(x, 0, 2, 650, 1);
        getsBy(x, 1, 0, 900, 1);
        getsBy(x, 1, 1, 2300, 3);
        getsBy(x, 1, 2, 700, 1);
        getsBy(x, 2, 2, 650, 1);
        x.setting(0, 2);
        x.setting(1, 2);
        getsBy(x, 1, 0, 900, 1);
        is("18 settings stay", x.setting(0, 0), 2);
        is("18 settings stay", x.setting(1, 0), 2);
        x.reopen(0);
        x.pair(0, 1);
        x.settle(1, 300);
        getsBy(x, 0, 0, 800, 1);
        getsBy(x, 1, 0, 500, 1);
        for (int wrong : Cases.NO_WHICH) {
            int other = wrong == 2 ? 3 : wrong;
            is("18 manner " + other, x.gets(other, 0, 0), Cases.LOST);
            is("18 spread " + other, x.gets(0, other, 0), Cases.LOST);
            is("18 which " + wrong, x.gets(0, 0, wrong), Cases.LOST);
        }
    }

    private static void bestManner() {
        SharedFault x = Cases.with(1200, 20, 20, 10, 10);
        is("19 all alike", x.bestManner(), 0);
        x.settle(0, 500);
        is("19 settled for more than its part", x.bestManner(), 1);
        x.setting(0, 2);
        is("19 whatever the manner is", x.bestManner(), 1);
        is("19 the manner stays", x.setting(0, 0), 2);
        x.reopen(0);
        x.settle(0, 300);
        is("19 settled for less than its part", x.bestManner(), 0);
        x.reopen(0);
        x.settle(0, 400);
        is("19 settled for its part", x.bestManner(), 0);
        x.reopen(0);
        x.settle(0, 500);
        x.broke(1, true);
        x.broke(2, true);
        is("19 all broke", x.bestManner(), 0);
        x.broke(2, false);
        x.setting(1, 2);
        is("19 by the spread as it is", x.bestManner(), 1);
        x.reopen(0);
        x.settle(0, 300);
        is("19 for all manners by that spread", x.bestManner(), 0);
        is("19 the spread stays", x.setting(1, 2), 2);
        x.broke(2, true);
        for (int spread = 0; spread < 3; spread++) {
            x.setting(1, spread);
            is("19 nobody owes by spread " + spread, x.bestManner(), 0);
        }
        SharedFault little = Cases.with(2, 0, 1, 1);
        little.settle(0, 2);
        is("19 by 1 more", little.bestManner(), 1);
    }

    private static void savesOf(SharedFault x, int w, int v, long up, long down) {
        CHECK.share("20 saves " + w + " " + v, x.saves(w, v, 0), x.saves(w, v, 1), up, down);
    }

    private static void saves() {
        SharedFault x = Cases.with(1200, 20, 20, 10, 20);
        savesOf(x, 0, 0, 2400, 7);
        savesOf(x, 0, 1000000, 2400 - 7000000, 7);
        x.pair(0, 1);
        savesOf(x, 0, 100, 2900, 7);
        savesOf(x, 1, 100, 2900, 7);
        x.settle(1, 900);
        savesOf(x, 0, 100, 2900, 7);
        savesOf(x, 2, 0, 0, 1);
        is("20 it stays settled", x.ofWrong(0, 4), 900);
        is("20 it stays settled", x.ofWrong(1, 4), 900);
        x.setting(0, 1);
        savesOf(x, 2, 0, 2400, 7);
        x.broke(2, true);
        savesOf(x, 2, 5, -5, 1);
        savesOf(x, 0, 0, 6000, 7);
        x.broke(1, true);
        savesOf(x, 0, 0, 6000, 7);
        x.broke(0, true);
        savesOf(x, 0, 1, -1, 1);
        SharedFault paid = Cases.with(100, 0, 10);
        paid.pay(0, 60);
        savesOf(paid, 0, 30, 70, 1);
        for (int w : Cases.STRANGE) {
            is("20 saves " + w, x.saves(w, 0, 0), Cases.LOST);
        }
        is("20 saves 3", x.saves(3, 0, 0), Cases.LOST);
        is("20 v -1", x.saves(0, -1, 0), Cases.LOST);
        is("20 v 1000001", x.saves(0, 1000001, 0), Cases.LOST);
        for (int which : Cases.NO_WHICH) {
            is("20 which " + which, x.saves(0, 0, which), Cases.LOST);
        }
    }

    private static void missesOf(SharedFault x, int w, long up, long down) {
        CHECK.share("21 misses " + w, x.misses(w, 0), x.misses(w, 1), up, down);
    }

    private static void misses() {
        SharedFault x = Cases.with(1200, 10, 10, 20, 20);
        missesOf(x, 2, 0, 1);
        x.setting(1, 2);
        missesOf(x, 2, 400, 1);
        x.setting(1, 1);
        missesOf(x, 2, 100, 1);
        x.broke(2, true);
        missesOf(x, 2, 100, 1);
        missesOf(x, 1, 300, 1);
        is("21 it stays as it was", x.ofWrong(1, 1), 0);
        is("21 it stays as it was", x.ofWrong(2, 1), 1);
        x.pair(0, 1);
        missesOf(x, 0, 0, 1);
        x.broke(1, true);
        missesOf(x, 0, 900, 1);
        x.settle(0, 100);
        missesOf(x, 0, 0, 1);
        missesOf(x, 2, 900, 1);
        SharedFault odd = Cases.with(1000, 7, 11, 13);
        odd.setting(1, 1);
        missesOf(odd, 0, 3850, 31);
        for (int w : Cases.STRANGE) {
            is("21 misses " + w, x.misses(w, 0), Cases.LOST);
        }
        is("21 misses 3", x.misses(3, 0), Cases.LOST);
        for (int which : Cases.NO_WHICH) {
            is("21 which " + which, x.misses(0, which), Cases.LOST);
        }
    }

    private static void owe() {
        SharedFault x = Cases.with(1200, 10, 10, 20, 0, 30, 30, 20);
        is("22 all with a weight", x.owe(), 0b111011);
        x.settle(0, 5);
        is("22 but the settled", x.owe(), 0b111010);
        x.broke(5, true);
        is("22 but the broke", x.owe(), 0b011010);
        x.pair(2, 5);
        is("22 who answers for the other", x.owe(), 0b011110);
        x.pay(3, 100);
        is("22 payments take nothing off", x.owe(), 0b011110);
        x.loss(0);
        is("22 no loss", x.owe(), 0);
        x.loss(1200);
        x.reopen(0);
        x.settle(0, 1000000);
        is("22 no rest", x.owe(), 0);
        is("22 little weights", Cases.with(1, 0, 1, 0, 1).owe(), 0b101);
    }

    /** Great numbers that share little: here the lower numbers are too great to multiply carelessly. */
    private static void greatest() {
        SharedFault x = Cases.with(1000000, 99, 100, 100, 99, 97, 100, 92);
        x.settle(5, 0);
        x.setting(1, 1);
        x.broke(2, true);
        Fraction rest = Fraction.of(1000000).times(588).by(687);
        Fraction missed = rest.times(99).by(496).times(99).by(397 + 99);
        Fraction missedMore = rest.times(199).by(496).times(99).by(297 + 99);
        Fraction misses = missedMore.minus(missed);
        amount(x, 2, rest.told(0), rest.told(1));
        amount(x, 3, missed.told(0), missed.told(1));
        missesOf(x, 4, misses.told(0), misses.told(1));
    }
}
