import java.util.Arrays;
import java.util.List;

/**
 * Every call with numbers from all the bounds, in several cases: what is refused is refused as the model refuses
 * it, and neither a refused call nor a question changes anything that a later call tells.
 */
final class Sweep {
    private static final String[] CASES = {
        "",
        "loss 1000000; claimant 100",
        "loss 100; claimant 20; wrong 30",
        "loss 1000; claimant 7; wrong 10; wrong 20; wrong 30; wrong 40; wrong 50; wrong 60",
        "loss 1000; claimant 7; wrong 10; wrong 20; wrong 30; wrong 40; wrong 50; wrong 60; pair 0 3; pair 1 4; settle 3 90; "
            + "settle 2 1000000; broke 1 1; setting 0 1; setting 1 1; pay 4 200; pay 5 1; broke 5 1",
        "loss 900; claimant 1; wrong 10; wrong 20; wrong 30; leave 1; broke 0 1; broke 2 1; setting 1 2; setting 2 90",
        "loss 900; wrong 0; wrong 0; wrong 0; pair 0 1; settle 2 0; setting 0 2",
        "loss 900; wrong 1; wrong 2; wrong 3; pair 2 0; pay 0 300; pay 1 600; setting 1 1; claimant 1"};
    private static final int[] NUMBERS = {
        Integer.MIN_VALUE, -1, 0, 1, 2, 3, 4, 5, 6, 7, 32, Integer.MAX_VALUE};
    private static final int[] AMOUNTS = {
        Integer.MIN_VALUE, -1, 0, 1, 2, 3, 100, 101, 1000000, 1000001, Integer.MAX_VALUE};
    private static final int[] FEW = {Integer.MIN_VALUE, -1, 0, 1, 2, 3, Integer.MAX_VALUE};
    private static final int[] IS = {0, 1};
    private static final int[] ALONE = {0};

    private final Check check;
    private List<Script.Step> steps;
    private String about;
    private Told untouched;

    Sweep(Check check) {
        this.check = check;
    }

    void run() {
        for (String one : CASES) {
            steps = Script.parsed(one);
            about = one;
            untouched = Told.by(made());
            changes();
            questions();
        }
    }

    private SharedFault made() {
        SharedFault x = new SharedFault();
        for (Script.Step step : steps) {
            Script.call(x, step.name(), step.arguments());
        }
        return x;
    }

    private Model modelled() {
        Model model = new Model();
        for (Script.Step step : steps) {
            Script.call(model, step.name(), step.arguments());
        }
        return model;
    }

    private void changes() {
        for (String name : new String[] {"loss", "claimant", "wrong"}) {
            all(name, true, AMOUNTS);
        }
        for (String name : new String[] {"leave", "part", "reopen", "refund"}) {
            all(name, true, NUMBERS);
        }
        for (String name : new String[] {"weight", "settle", "pay"}) {
            all(name, true, NUMBERS, AMOUNTS);
        }
        all("broke", true, NUMBERS, IS);
        all("pair", true, NUMBERS, NUMBERS);
        all("setting", true, FEW, AMOUNTS);
    }

    private void questions() {
        for (String name : new String[] {"bestManner", "owe", "transfers"}) {
            all(name, false);
        }
        for (String name : new String[] {"credit", "unitDue", "due", "misses", "fair", "over"}) {
            all(name, false, NUMBERS, FEW);
        }
        for (String name : new String[] {"ofWrong", "amount", "transfer", "given"}) {
            all(name, false, NUMBERS, NUMBERS);
        }
        all("many", false, NUMBERS);
        all("gets", false, FEW, FEW, FEW);
        all("saves", false, NUMBERS, AMOUNTS, FEW);
    }

    private void all(String name, boolean changes, int[]... rows) {
        int[] first = rows.length > 0 ? rows[0] : ALONE;
        int[] second = rows.length > 1 ? rows[1] : ALONE;
        int[] third = rows.length > 2 ? rows[2] : ALONE;
        for (int a : first) {
            for (int b : second) {
                for (int c : third) {
                    one(name, changes, new int[] {a, b, c});
                }
            }
        }
    }

    private void one(String name, boolean changes, int[] arguments) {
        SharedFault x = made();
        long got = Script.call(x, name, arguments);
        long want = Script.call(modelled(), name, arguments);
        String call = name + Arrays.toString(arguments) + " after " + about;
        check.is(call, got, want);
        if (!changes || want < 0) {
            String differs = Told.by(x).differsFrom(untouched);
            check.holds(call + " changes " + differs, differs == null);
        }
    }
}
