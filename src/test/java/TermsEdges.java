/** The boundary sentences of 'What it is', of the terms, and of their paragraph 1. */
final class TermsEdges {
    private static final String[] OF_WRONGDOERS = {
        "leave #", "weight # 5", "broke # 1", "broke # 0", "pair # 5", "pair 5 #", "part #", "settle # 5", "reopen #",
        "ofWrong # 0", "pay # 1", "refund #"};
    private static final String[] SHARES_OF_WRONGDOERS = {
        "credit # 0", "credit # 1", "unitDue # 0", "unitDue # 1", "due # 0", "due # 1", "saves # 5 0", "saves # 5 1",
        "misses # 0", "misses # 1", "fair # 0", "fair # 1", "over # 0", "over # 1"};

    private TermsEdges() { }

    static void run() {
        summary();
        calls512();
        laterCalls();
        firstRefusal();
        unknown();
        outsideStateFull();
        changeNothing();
        none();
        lost();
        leastTerms();
        zero();
        sets();
        whenAsked();
        lossBounds();
        claimantBounds();
        wrongdoers();
        weightBounds();
        onePair();
        units();
        brokeUnits();
        settledUnits();
        blame();
        settings();
    }

    // ---- What it is

    private static void summary() {
        String four = "loss 12000; claimant 20; wrong 30; wrong 20; wrong 20; wrong 10; ";
        Edge.whatItIs("A court that shares out fault: a loss, one who claims and may be to blame, too, several who did wrong,");
        Edge.run(four + "amount 0 = 9600/1; due 0 = 3600/1; due 1 = 2400/1; due 2 = 2400/1; due 3 = 1200/1; claimant 0; amount 0 = 12000/1");
        Edge.whatItIs("some of them master and servant, who count as one;");
        Edge.run(four + "pair 0 1; many 1 = 3; unitDue 0 = 6000/1; unitDue 1 = 6000/1; settle 0 9; ofWrong 1 3 = 1; ofWrong 1 4 = 9");
        Edge.whatItIs("some settle early, and what that takes off the claim, in three manners;");
        Edge.run(four + "settle 3 600; amount 2 = 9000/1; setting 0 1; amount 2 = 8400/1; setting 0 2; amount 2 = 8400/1; "
                + "reopen 3; settle 3 1500; amount 2 = 8100/1; setting 0 1; amount 2 = 8400/1; setting 0 0; amount 2 = 8100/1");
        Edge.whatItIs("some are broke, and on whom their parts come, in three manners;");
        Edge.run(four + "broke 2 1; due 0 = 4800/1; amount 3 = 0/1; setting 1 1; due 0 = 4500/1; amount 3 = 600/1; setting 1 2; "
                + "due 0 = 3600/1; amount 3 = 2400/1");
        String paid = four + "pair 0 1; settle 3 600; pay 0 6000; pay 2 1000; ";
        Edge.whatItIs("what each one owes at last, to the coin's fraction;");
        Edge.run(paid + "due 0 = 27000/7; due 1 = 18000/7; due 2 = 18000/7; due 3 = 0/1");
        Edge.whatItIs("what was paid, and by whom too much;");
        Edge.run(paid + "many 5 = 7000; over 0 = 3000/1; over 1 = -2000/1; over 2 = -1000/1; over 3 = 0/1");
        Edge.whatItIs("who gives whom how much, so that each has borne what is fair;");
        Edge.run(paid + "transfers = 2; transfer 0 0 = 1; transfer 0 1 = 0; given 0 = 2000/1; transfer 1 0 = 2; transfer 1 1 = 0; "
                + "given 1 = 1000/1; fair 0 = 3000/1; fair 1 = 2000/1; fair 2 = 2000/1; fair 3 = 0/1");
        Edge.whatItIs("what another manner, a settlement, one more who is broke would make of it.");
        Edge.run(paid + "gets 0 0 = 9600/1; gets 1 0 = 9000/1; bestManner = 0; saves 2 2000 = 4000/7; misses 2 = 0/1; setting 1 2; "
                + "misses 2 = 18000/7");
    }

    private static void calls512() {
        Edge.whatItIs("An object is used for at most 512 calls after it has been made;");
        Script pays = Edge.run("loss 1000000; wrong 1");
        for (int call = 3; call <= 512; call++) {
            pays.run("pay 0 1 = " + (call - 2));
        }
        Script comings = Edge.run("");
        for (int call = 1; call < 512; call += 2) {
            comings.run("wrong 7 = 0; leave 0 = 0");
        }
        Script settlings = Edge.run("loss 100; wrong 1; wrong 1; pair 0 1");
        for (int call = 5; call < 512; call += 2) {
            settlings.run("settle 0 " + call + " = 1; reopen 1 = " + call);
        }
        Script dearest = Edge.run("loss 1000000; claimant 99; wrong 100; wrong 97; wrong 89; wrong 83; wrong 79; wrong 73; "
                + "setting 1 1; broke 5 1; settle 0 999; pay 2 5");
        for (int call = 13; call < 512; call++) {
            dearest.run("bestManner = 0");
        }
        dearest.run("transfers = 3");
        // only runs that go just so far tell something of the 512th call
        for (Script script : new Script[] {pays, comings, settlings, dearest}) {
            Edge.CHECK.is("calls of the run", script.calls(), 512);
        }
    }

    private static void laterCalls() {
        Edge.whatItIs("what later calls answer is free.");
        SharedFault x = Edge.run("loss 1000; " + Edge.SIX + "pair 0 1; settle 2 5; broke 3 1; pay 4 7").object();
        for (int round = 0; round < 3; round++) {
            Told.by(x);
        }
        Edge.CHECK.holds("they end, whatever they answer", true);
    }

    // ---- refusals

    private static void firstRefusal() {
        Edge.terms("REFUSALS: of a call's line the first that fits is answered, in the order told there:");
        String six = "loss 1000; " + Edge.SIX;
        for (String v : new String[] {"least", "-1", "101", "greatest"}) {
            Edge.refused(six, "wrong " + v, "OUTSIDE");
            Edge.refused("wrong 1", "weight 1 " + v, "UNKNOWN");
            Edge.refused("wrong 1", "weight -1 " + v, "UNKNOWN");
        }
        for (String v : new String[] {"least", "-1", "1000001", "greatest"}) {
            Edge.refused("wrong 1", "settle 1 " + v, "UNKNOWN");
            Edge.refused("wrong 1; settle 0 5", "settle 0 " + v, "OUTSIDE");
            Edge.refused("loss 10; wrong 1; pay 0 5", "settle 0 " + v, "OUTSIDE");
            Edge.refused("wrong 1", "saves 1 " + v + " 0", "LOST");
        }
        for (String v : new String[] {"least", "-1", "0", "1000001", "greatest"}) {
            Edge.refused(six, "pay 6 " + v, "UNKNOWN");
            Edge.refused(six + "broke 0 1", "pay 0 " + v, "OUTSIDE");
            Edge.refused(six + "settle 0 5", "pay 0 " + v, "OUTSIDE");
            Edge.refused(six + "settle 0 5; broke 0 1", "pay 0 " + v, "OUTSIDE");
            Edge.refused(six + "pay 0 1000", "pay 1 " + v, "OUTSIDE");
            Edge.refused("wrong 1", "pay 0 " + v, "OUTSIDE");
        }
        firstOfPair();
        Edge.refused("wrong 1", "ofWrong 1 6", "UNKNOWN");
        Edge.refused("wrong 1", "ofWrong -1 -1", "UNKNOWN");
        Edge.refused("wrong 1", "setting 3 101", "OUTSIDE");
        Edge.refused("wrong 1", "setting -1 -1", "OUTSIDE");
        Edge.refused("wrong 1", "transfer -1 2", "OUTSIDE");
        Edge.refused("wrong 1", "transfer 0 2", "OUTSIDE");
        Edge.refused("wrong 1", "transfer 6 -1", "OUTSIDE");
        Edge.refused("wrong 1", "given -1 2", "LOST");
        Edge.refused("wrong 1", "amount 5 2", "LOST");
        Edge.refused("wrong 1", "gets 3 3 2", "LOST");
        for (String name : new String[] {"credit", "unitDue", "due", "misses", "fair", "over"}) {
            Edge.refused("wrong 1", name + " 1 2", "LOST");
        }
    }

    private static void firstOfPair() {
        String paired = "wrong 1; wrong 2; wrong 3; pair 0 1";
        String settled = "wrong 1; wrong 2; wrong 3; settle 0 5";
        for (String steps : new String[] {paired, settled, paired + "; settle 1 5"}) {
            Edge.refused(steps, "pair 0 0", "UNKNOWN");
            Edge.refused(steps, "pair 0 3", "UNKNOWN");
            Edge.refused(steps, "pair 3 0", "UNKNOWN");
            Edge.refused(steps, "pair 0 greatest", "UNKNOWN");
            Edge.refused(steps, "pair least 0", "UNKNOWN");
        }
    }

    private static void unknown() {
        Edge.terms("UNKNOWN (there is no such WRONGDOER in the case),");
        knownOnlyWhile(OF_WRONGDOERS, "UNKNOWN");
        knownOnlyWhile(SHARES_OF_WRONGDOERS, "LOST");
    }

    /** Another one is in the case all the time: 5, so that it can be a pair's other one. */
    private static void knownOnlyWhile(String[] calls, String want) {
        String others = "loss 900; " + Edge.SIX + "leave 0; leave 1; leave 2; leave 3; leave 4";
        for (String call : calls) {
            String of0 = call.replace("#", "0");
            String of1 = call.replace("#", "1");
            Edge.refused(others, of0, want);
            Edge.refused(others + "; wrong 4", of1, want);
            Edge.refused(others + "; wrong 4; leave 0", of0, want);
            SharedFault in = Edge.run(others + "; wrong 4").object();
            SharedFault again = Edge.run(others + "; wrong 4; leave 0; wrong 4").object();
            for (SharedFault x : new SharedFault[] {in, again}) {
                Script.Step step = Script.parsed(of0).get(0);
                boolean known = Script.call(x, step.name(), step.arguments()) != Script.answer(want);
                Edge.CHECK.holds(of0 + " while 0 is in the case", known);
            }
        }
    }

    private static void outsideStateFull() {
        Edge.terms("OUTSIDE (another number is not as told), STATE (as told), FULL;");
        Edge.refused("", "loss -1", "OUTSIDE");
        Edge.refused("", "claimant 101", "OUTSIDE");
        Edge.refused("", "wrong 101", "OUTSIDE");
        Edge.refused("", "setting 2 101", "OUTSIDE");
        Edge.refused("", "many 6", "OUTSIDE");
        Edge.refused("", "transfer -1 0", "OUTSIDE");
        Edge.refused("wrong 1", "weight 0 101", "OUTSIDE");
        Edge.refused("wrong 1", "settle 0 -1", "OUTSIDE");
        Edge.refused("wrong 1", "ofWrong 0 6", "OUTSIDE");
        Edge.refused("loss 5; wrong 1", "pay 0 0", "OUTSIDE");
        Edge.refused("wrong 1; wrong 1; pair 0 1", "pair 0 1", "STATE");
        Edge.refused("wrong 1", "part 0", "STATE");
        Edge.refused("wrong 1; settle 0 0", "settle 0 0", "STATE");
        Edge.refused("wrong 1", "reopen 0", "STATE");
        Edge.refused("wrong 1", "pay 0 1", "STATE");
        Edge.refused("wrong 1", "refund 0", "STATE");
        Edge.refused(Edge.SIX, "wrong 1", "FULL");
    }

    private static void changeNothing() {
        Edge.terms("they change nothing.");
        new Sweep(Edge.CHECK).run();
    }

    // ---- what is told

    private static void none() {
        Edge.terms("NONE is -9.");
        Edge.CHECK.is("NONE", SharedFault.NONE, -9);
        Edge.run("wrong 1; ofWrong 0 2 = -9; ofWrong 0 4 = -9; transfer 0 0 = -9; transfer 0 1 = -9");
    }

    private static void lost() {
        Edge.terms("LOST (where a long is told) stands for any refusal, and for NONE.");
        Edge.CHECK.is("LOST", SharedFault.LOST, Long.MIN_VALUE);
        String one = "loss 7; wrong 1";
        Edge.refused(one, "amount 5 0", "LOST");
        Edge.refused(one, "amount 0 2", "LOST");
        Edge.refused(one, "gets 3 0 0", "LOST");
        Edge.refused(one, "gets 0 3 0", "LOST");
        Edge.refused(one, "gets 0 0 2", "LOST");
        Edge.refused(one, "saves 1 5 0", "LOST");
        Edge.refused(one, "saves 0 -1 0", "LOST");
        Edge.refused(one, "saves 0 5 2", "LOST");
        for (String name : new String[] {"credit", "unitDue", "due", "misses", "fair", "over"}) {
            Edge.refused(one, name + " 1 0", "LOST");
            Edge.refused(one, name + " 0 2", "LOST");
        }
        Edge.refused(one, "given -1 0", "LOST");
        Edge.refused(one, "given 0 2", "LOST");
        Edge.refused(one, "given 0 0", "LOST");
        Edge.refused(one, "given 0 1", "LOST");
    }

    private static void leastTerms() {
        Edge.terms("Amounts are shares: told in least terms, the upper number (which 0), the lower one (1; above 0);");
        Edge.run("loss 6; claimant 2; wrong 4; wrong 6; setting 1 1; amount 0 = 5/1; loss 7; amount 0 = 35/6; "
                + "amount 2 = 35/6; due 0 = 7/3; unitDue 1 = 7/2; amount 4 = 35/6; amount 3 = 0/1; gets 0 0 = 35/6; "
                + "amount 0 0 = 35; amount 0 1 = 6; saves 0 2 = 1/3; saves 0 3 = -2/3; saves 1 4 = -1/2; "
                + "misses 0 = 7/12; setting 0 1; settle 1 1; credit 1 = 7/2; amount 1 = 7/2; amount 2 = 7/3");
        Edge.run("loss 100; wrong 4; wrong 6; wrong 2; pay 0 10; fair 0 = 10/3; over 0 = 20/3; fair 1 = 5/1; over 1 = -5/1; "
                + "fair 2 = 5/3; over 2 = -5/3; given 0 = 5/1; given 1 = 5/3; given 1 0 = 5; given 1 1 = 3");
        Edge.run("loss 999983; claimant 67; wrong 97; wrong 89; wrong 83; wrong 79; wrong 73; wrong 71; "
                + "amount 0 = 491991636/559; due 5 = 70998793/559");
    }

    private static void zero() {
        Edge.terms("0 is 0 by 1.");
        Edge.run("amount 0 = 0/1; amount 1 = 0/1; amount 2 = 0/1; amount 3 = 0/1; amount 4 = 0/1; gets 0 0 = 0/1; gets 2 2 = 0/1");
        Edge.run("claimant 7; wrong 3; wrong 0; credit 0 = 0/1; unitDue 0 = 0/1; due 0 = 0/1; saves 0 0 = 0/1; "
                + "misses 0 = 0/1; fair 0 = 0/1; over 0 = 0/1; amount 0 = 0/1; amount 4 = 0/1");
        Edge.run("loss 30; claimant 7; wrong 3; wrong 5; broke 0 1; settle 1 0; credit 1 = 0/1; unitDue 0 = 0/1; due 1 = 0/1; "
                + "fair 0 = 0/1; over 1 = 0/1; misses 1 = 0/1; amount 4 = 0/1; saves 0 0 = 0/1");
        Edge.run("loss 30; wrong 3; wrong 7; saves 0 9 = 0/1; pay 0 9; pay 1 21; over 0 = 0/1; over 1 = 0/1; amount 3 = 0/1");
    }

    private static void sets() {
        Edge.terms("Sets are told as bits (bit k for WRONGDOER k).");
        Edge.run("owe = 0; wrong 1; owe = 0; loss 1; owe = 1");
        for (int w = 0; w < 6; w++) {
            StringBuilder others = new StringBuilder();
            for (int other = 0; other < 6; other++) {
                others.append(other == w ? "" : "; leave " + other);
            }
            Edge.run("loss 600; " + Edge.SIX + "owe = 63; broke " + w + " 1; owe = " + (63 - (1 << w))
                    + "; broke " + w + " 0" + others + "; owe = " + (1 << w) + "; leave " + w + "; owe = 0");
        }
    }

    private static void whenAsked() {
        Edge.terms("All that is told is by how all is when it is asked.");
        Edge.run("loss 100; wrong 1; due 0 = 100/1; wrong 1; due 0 = 50/1; loss 30; due 0 = 15/1; weight 1 2; due 0 = 10/1; "
                + "claimant 2; due 0 = 6/1; setting 2 39; due 0 = 0/1; setting 2 40; due 0 = 6/1; broke 1 1; due 0 = 18/1; "
                + "setting 1 1; due 0 = 10/1; setting 1 2; due 0 = 6/1; broke 1 0; settle 1 9; due 0 = 9/1; "
                + "setting 0 1; due 0 = 6/1; reopen 1; due 0 = 6/1; pair 0 1; unitDue 0 = 18/1; part 1; unitDue 0 = 6/1; "
                + "leave 1; due 0 = 0/1; setting 2 100; due 0 = 10/1; pay 0 5; over 0 = 0/1; wrong 1; over 0 = 5/2; transfers = 1; given 0 = 5/2; "
                + "refund 0; transfers = 0; over 0 = 0/1; given 0 = LOST");
        // A settlement stays as it was made, its credit goes by how all is now.
        Edge.run("loss 100; wrong 1; wrong 1; setting 0 1; settle 0 7; credit 0 = 50/1; loss 40; credit 0 = 20/1; "
                + "weight 0 3; credit 0 = 30/1; claimant 4; credit 0 = 15/1; setting 0 0; credit 0 = 7/1; ofWrong 0 4 = 7");
    }

    // ---- 1: the case

    private static void lossBounds() {
        Edge.terms("==== 1 LOSS: 0 .. 1000000 (0 at first).");
        Edge.run("loss 0 = 0; loss 1 = 0; loss 999999 = 1; loss 1000000 = 999999; loss 0 = 1000000; loss 0 = 0");
        Edge.outside("loss 77; wrong 1", "loss #", 0, 1000000, "OUTSIDE");
    }

    private static void claimantBounds() {
        Edge.terms("The CLAIMANT has a WEIGHT 0 .. 100 (0 at first).");
        Edge.run("many 4 = 0; claimant 0 = 0; claimant 1 = 0; claimant 99 = 1; claimant 100 = 99; many 4 = 100; "
                + "claimant 0 = 100; many 4 = 0");
        Edge.outside("claimant 77; wrong 1", "claimant #", 0, 100, "OUTSIDE");
    }

    private static void wrongdoers() {
        Edge.terms("WRONGDOERS 0 .. 5, each in the case or not (none at first),");
        for (int w = 0; w < 6; w++) {
            Edge.run("many 0 = 0; ofWrong " + w + " 0 = UNKNOWN; " + Edge.SIX + "ofWrong " + w + " 0 = " + 10 * (w + 1)
                    + "; leave " + w + " = 5; ofWrong " + w + " 0 = UNKNOWN; wrong 3 = " + w + "; ofWrong " + w + " 0 = 3");
        }
        for (int w : Edge.NEVER) {
            Edge.run(Edge.SIX + "ofWrong " + w + " 0 = UNKNOWN; many 0 = 6");
        }
    }

    private static void weightBounds() {
        Edge.terms("with a WEIGHT 0 .. 100, BROKE or not,");
        Edge.run("wrong 0 = 0; wrong 100 = 1; ofWrong 0 0 = 0; ofWrong 1 0 = 100; weight 0 100 = 0; weight 1 0 = 100; "
                + "ofWrong 0 0 = 100; ofWrong 1 0 = 0; ofWrong 0 1 = 0; broke 0 1 = 1; ofWrong 0 1 = 1; ofWrong 1 1 = 0");
        Edge.outside("wrong 7", "wrong #", 0, 100, "OUTSIDE");
        Edge.outside("wrong 7", "weight 0 #", 0, 100, "OUTSIDE");
    }

    private static void onePair() {
        Edge.terms("perhaps in a PAIR with one other one.");
        Edge.run(Edge.SIX + "ofWrong 0 2 = NONE; pair 0 5 = 1; pair 4 1 = 1; pair 2 3 = 1; many 1 = 3; ofWrong 0 2 = 5; "
                + "ofWrong 5 2 = 0; ofWrong 4 2 = 1; ofWrong 1 2 = 4; ofWrong 2 2 = 3; ofWrong 3 2 = 2");
        Edge.refused(Edge.SIX + "pair 0 5; pair 4 1; pair 2 3", "pair 0 1", "STATE");
        Edge.refused(Edge.SIX + "pair 0 5; pair 4 1", "pair 5 2", "STATE");
    }

    private static void units() {
        Edge.terms("UNITS: PAIRS, and those that are in none; each has the WEIGHTS of its WRONGDOERS together,");
        Edge.run("many 1 = 0; wrong 1; many 1 = 1; wrong 2; many 1 = 2; pair 0 1; many 1 = 1; wrong 3; many 1 = 2; "
                + "loss 60; unitDue 0 = 30/1; unitDue 1 = 30/1; unitDue 2 = 30/1; part 0; many 1 = 3; unitDue 0 = 10/1; "
                + "unitDue 1 = 20/1; many 4 = 6");
        Edge.run("loss 1000000; wrong 100; wrong 100; pair 0 1; setting 0 1; settle 1 0; credit 0 = 1000000/1");
        Edge.run("loss 60; wrong 0; wrong 3; wrong 3; pair 0 1; unitDue 0 = 30/1; weight 0 3; unitDue 0 = 40/1");
        Edge.run(Edge.SIX + "many 1 = 6; pair 0 1; pair 2 3; pair 4 5; many 1 = 3");
    }

    private static void brokeUnits() {
        Edge.terms("is BROKE, if all of them are,");
        Edge.run("many 3 = 0; wrong 1; wrong 2; broke 0 1; many 3 = 1; pair 0 1; many 3 = 0; broke 1 1; many 3 = 1; "
                + "broke 0 0; many 3 = 0; broke 1 0; many 3 = 0; part 0; broke 1 1; many 3 = 1; broke 0 1; many 3 = 2; "
                + "leave 0; many 3 = 1");
        // Who is left of a pair decides alone.
        Edge.run("wrong 1; wrong 2; pair 0 1; broke 0 1; many 3 = 0; leave 1; many 3 = 1");
    }

    private static void settledUnits() {
        Edge.terms("may be SETTLED for an amount (a whole number); those not SETTLED are OPEN.");
        Edge.run("wrong 1; wrong 2; wrong 3; pair 0 1; ofWrong 0 3 = 0; many 2 = 0; settle 0 0 = 1; ofWrong 0 3 = 1; "
                + "ofWrong 1 3 = 1; ofWrong 2 3 = 0; many 2 = 1; settle 2 1000000 = 1; many 2 = 2; ofWrong 1 4 = 0; "
                + "ofWrong 2 4 = 1000000; reopen 1 = 0; ofWrong 0 3 = 0; ofWrong 1 3 = 0; many 2 = 1");
        // Who is settled is not open, so not an open one that is broke.
        Edge.run("wrong 1; broke 0 1; many 3 = 1; settle 0 5 = 1; many 3 = 0; reopen 0 = 5; many 3 = 1");
    }

    private static void blame() {
        Edge.terms("BLAME: WEIGHTS of the CLAIMANT and of all UNITS together.");
        Edge.run("many 4 = 0; claimant 100; many 4 = 100; wrong 100; wrong 100; wrong 100; wrong 100; wrong 100; wrong 100; "
                + "many 4 = 700; pair 0 1; settle 0 5; broke 2 1; settle 3 0; many 4 = 700; claimant 0; many 4 = 600; "
                + "leave 0; many 4 = 500; weight 1 0; many 4 = 400");
        Edge.run("wrong 0; wrong 0; many 4 = 0; claimant 1; many 4 = 1; claimant 0; weight 1 1; many 4 = 1");
    }

    private static void settings() {
        Edge.terms("SETTINGS: 0 MANNER (0 .. 2; 0 at first),");
        Edge.run("setting 0 0 = 0; setting 0 2 = 0; setting 0 1 = 2; setting 0 0 = 1; setting 1 0 = 0; setting 2 100 = 100");
        Edge.outside("setting 0 1", "setting 0 #", 0, 2, "OUTSIDE");
        Edge.terms("1 SPREAD (0 .. 2; 0),");
        Edge.run("setting 1 0 = 0; setting 1 2 = 0; setting 1 1 = 2; setting 1 0 = 1; setting 0 0 = 0; setting 2 100 = 100");
        Edge.outside("setting 1 1", "setting 1 #", 0, 2, "OUTSIDE");
        Edge.terms("2 BAR (0 .. 100; 100).");
        Edge.run("setting 2 100 = 100; setting 2 0 = 100; setting 2 1 = 0; setting 2 99 = 1; setting 2 100 = 99; "
                + "setting 0 0 = 0; setting 1 0 = 0");
        Edge.outside("setting 2 50", "setting 2 #", 0, 100, "OUTSIDE");
    }
}
