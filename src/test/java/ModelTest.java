import java.util.Random;

/** Long runs of calls, drawn by a fixed seed, whose answers must be those of the model. */
public final class ModelTest {
    private static final Check CHECK = new Check("ModelTest");
    private static final int RUNS = 600;
    private static final int CALLS = 512;
    private static final int[] STRANGE = {
        Integer.MIN_VALUE, -1000001, -2, -1, 0, 2, 3, 5, 6, 7, 32, 101, 1000001, Integer.MAX_VALUE};

    private final Random random;
    private final SharedFault x = new SharedFault();
    private final Model model = new Model();
    private final int run;
    // Some runs take great weights that share few divisors, some small ones, with many zeros.
    private final boolean great;

    private ModelTest(int run) {
        this.run = run;
        random = new Random(run);
        great = run % 2 == 0;
    }

    public static void main(String[] args) {
        for (int run = 0; run < RUNS && CHECK.wrong() < 20; run++) {
            ModelTest test = new ModelTest(run);
            for (int call = 0; call < CALLS && CHECK.wrong() < 20; call++) {
                test.call();
            }
        }
        CHECK.end();
    }

    private boolean now(int percent) {
        return random.nextInt(100) < percent;
    }

    private int strange() {
        return STRANGE[random.nextInt(STRANGE.length)];
    }

    private int number(int most) {
        return now(2) ? strange() : random.nextInt(most + 1);
    }

    private int weight() {
        if (now(3)) return strange();
        return great ? 60 + random.nextInt(41) : random.nextInt(4) * random.nextInt(4);
    }

    private int money() {
        if (now(2)) return strange();
        if (now(5)) return now(50) ? 0 : 1000000;
        return great ? 990000 + random.nextInt(10001) : random.nextInt(500);
    }

    private int smallMoney() {
        if (now(3)) return strange();
        return 1 + random.nextInt(now(50) ? 100 : 150000);
    }

    /** Often just what is still due in all, or 1 more. */
    private int payment() {
        if (now(70)) return smallMoney();
        long due = model.amount(4, 0) / model.amount(4, 1) - model.many(5);
        return (int) due + random.nextInt(2);
    }

    private int bar() {
        return now(70) ? 100 : random.nextInt(102);
    }

    private void same(String call, long got, long want) {
        CHECK.is("run " + run + " " + call, got, want);
    }

    private void call() {
        if (now(45)) {
            change();
        } else if (now(60)) {
            askOwed();
        } else {
            askPaid();
        }
    }

    private void change() {
        int w = number(5);
        switch (random.nextInt(22)) {
            case 0: { int v = money(); same("loss " + v, x.loss(v), model.loss(v)); break; }
            case 1: { int v = weight(); same("claimant " + v, x.claimant(v), model.claimant(v)); break; }
            case 2: case 3: case 4: case 5: { int v = weight(); same("wrong " + v, x.wrong(v), model.wrong(v)); break; }
            case 6: same("leave " + w, x.leave(w), model.leave(w)); break;
            case 7: { int v = weight(); same("weight " + w + " " + v, x.weight(w, v), model.weight(w, v)); break; }
            case 8: case 9: { boolean is = now(45); same("broke " + w + " " + is, x.broke(w, is), model.broke(w, is)); break; }
            case 10: case 11: { int v = number(5); same("pair " + v + " " + w, x.pair(v, w), model.pair(v, w)); break; }
            case 12: same("part " + w, x.part(w), model.part(w)); break;
            case 13: case 14: {
                int v = now(60) ? smallMoney() : money();
                same("settle " + w + " " + v, x.settle(w, v), model.settle(w, v));
                break;
            }
            case 15: same("reopen " + w, x.reopen(w), model.reopen(w)); break;
            case 16: case 17: {
                int k = number(2);
                int v = k == 2 ? bar() : number(2);
                same("setting " + k + " " + v, x.setting(k, v), model.setting(k, v));
                break;
            }
            case 18: case 19: case 20: {
                int v = payment();
                same("pay " + w + " " + v, x.pay(w, v), model.pay(w, v));
                break;
            }
            default: same("refund " + w, x.refund(w), model.refund(w));
        }
    }

    private void askOwed() {
        int w = number(5);
        int which = number(1);
        switch (random.nextInt(10)) {
            case 0: { int what = number(5); same("ofWrong " + w + " " + what, x.ofWrong(w, what), model.ofWrong(w, what)); break; }
            case 1: { int what = number(4); same("amount " + what, x.amount(what, which), model.amount(what, which)); break; }
            case 2: same("credit " + w, x.credit(w, which), model.credit(w, which)); break;
            case 3: same("unitDue " + w, x.unitDue(w, which), model.unitDue(w, which)); break;
            case 4: same("due " + w, x.due(w, which), model.due(w, which)); break;
            case 5: {
                int manner = number(2);
                int spread = number(2);
                same("gets " + manner + " " + spread, x.gets(manner, spread, which), model.gets(manner, spread, which));
                break;
            }
            case 6: same("bestManner", x.bestManner(), model.bestManner()); break;
            case 7: { int v = money(); same("saves " + w + " " + v, x.saves(w, v, which), model.saves(w, v, which)); break; }
            case 8: same("misses " + w, x.misses(w, which), model.misses(w, which)); break;
            default: same("owe", x.owe(), model.owe());
        }
    }

    private void askPaid() {
        int w = number(5);
        int k = number(5);
        int which = number(1);
        switch (random.nextInt(6)) {
            case 0: same("fair " + w, x.fair(w, which), model.fair(w, which)); break;
            case 1: same("over " + w, x.over(w, which), model.over(w, which)); break;
            case 2: same("transfers", x.transfers(), model.transfers()); break;
            case 3: same("transfer " + k, x.transfer(k, which), model.transfer(k, which)); break;
            case 4: same("given " + k, x.given(k, which), model.given(k, which)); break;
            default: { int what = number(5); same("many " + what, x.many(what), model.many(what)); }
        }
    }
}
