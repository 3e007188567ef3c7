/** The sentences of promises 14 to 22. */
final class OwedEdges {
    /** Blame 10, entitled 900, by manner 0 a rest of 750, by the others 700; 3 is broke. */
    private static final String MIXED = "loss 1000; claimant 1; wrong 2; wrong 2; wrong 2; wrong 3; settle 0 150; broke 3 1; ";

    private OwedEdges() { }

    static void run() {
        amount();
        credit();
        unitDue();
        due();
        gets();
        bestManner();
        saves();
        misses();
        owe();
    }

    private static void noWhich(String steps, String call) {
        Edge.outside(steps, call + " #", 0, 1, "LOST");
    }

    private static void amount() {
        Edge.promise(14, "Amounts: 0 ENTITLED, 1 all CREDITS, 2 REST, 3 MISSED, 4 all DUES.");
        Edge.run("amount 0 = 0/1; amount 1 = 0/1; amount 2 = 0/1; amount 3 = 0/1; amount 4 = 0/1");
        Edge.run(MIXED + "setting 1 1; amount 0 = 900/1; amount 1 = 150/1; amount 2 = 750/1; amount 3 = 450/7; amount 4 = 4800/7");
        Edge.run(MIXED + "setting 1 2; setting 0 1; amount 0 = 900/1; amount 1 = 200/1; amount 2 = 700/1; amount 3 = 300/1; amount 4 = 400/1");
        // those of pairs are counted once
        Edge.run(MIXED + "reopen 0; pair 1 2; pair 0 3; amount 4 = 900/1; settle 2 100; amount 1 = 100/1; amount 4 = 800/1");
        Edge.promise(14, "LOST: OUTSIDE.");
        for (int which = 0; which < 2; which++) {
            Edge.outside("", "amount # " + which, 0, 4, "LOST");
            Edge.outside(MIXED, "amount # " + which, 0, 4, "LOST");
        }
        for (int what = 0; what < 5; what++) {
            noWhich("", "amount " + what);
            noWhich(MIXED, "amount " + what);
        }
    }

    private static void credit() {
        Edge.promise(15, "CREDIT of the UNIT of a WRONGDOER");
        Edge.run(MIXED + "credit 0 = 150/1; setting 0 1; credit 0 = 200/1; setting 0 2; credit 0 = 200/1; reopen 0; pair 0 3; settle 3 501; "
                + "credit 0 = 501/1; credit 3 = 501/1; setting 0 1; credit 0 = 500/1; credit 3 = 500/1; setting 0 0; credit 0 = 501/1");
        Edge.promise(15, "(0, if it is OPEN).");
        for (int manner = 0; manner < 3; manner++) {
            Edge.run("setting 0 " + manner + "; " + MIXED + "credit 1 = 0/1; credit 3 = 0/1; reopen 0; credit 0 = 0/1; amount 1 = 0/1");
        }
        Edge.promise(15, "LOST: UNKNOWN;");
        Edge.unknown("credit # 0", "LOST");
        Edge.unknown("credit # 1", "LOST");
        Edge.promise(15, "OUTSIDE.");
        noWhich(MIXED, "credit 0");
        noWhich(MIXED, "credit 1");
    }

    private static void unitDue() {
        Edge.promise(16, "DUE of the UNIT of a WRONGDOER.");
        Edge.run(MIXED + "unitDue 0 = 0/1; unitDue 1 = 375/1; unitDue 2 = 375/1; unitDue 3 = 0/1; pair 1 2; unitDue 1 = 750/1; "
                + "unitDue 2 = 750/1; broke 1 1; unitDue 1 = 750/1; unitDue 2 = 750/1; broke 2 1; unitDue 1 = 0/1");
        Edge.promise(16, "LOST: UNKNOWN;");
        Edge.unknown("unitDue # 0", "LOST");
        Edge.unknown("unitDue # 1", "LOST");
        Edge.promise(16, "OUTSIDE.");
        noWhich(MIXED, "unitDue 1");
        noWhich(MIXED, "unitDue 0");
    }

    private static void due() {
        Edge.promise(17, "DUE of a WRONGDOER.");
        Edge.run(MIXED + "due 0 = 0/1; due 1 = 375/1; due 3 = 0/1; pair 1 3; due 1 = 3750/7; due 3 = 0/1; due 2 = 1500/7; broke 3 0; "
                + "due 1 = 1500/7; due 3 = 2250/7");
        Edge.promise(17, "LOST: UNKNOWN;");
        Edge.unknown("due # 0", "LOST");
        Edge.unknown("due # 1", "LOST");
        Edge.promise(17, "OUTSIDE.");
        noWhich(MIXED, "due 1");
        noWhich(MIXED, "due 0");
    }

    private static void gets() {
        Edge.promise(18, "What the CLAIMANT would get at last: what was SETTLED for, and all DUES, if MANNER and SPREAD were these.");
        String wants = "gets 0 0 = 900/1; gets 0 1 = 5850/7; gets 0 2 = 4050/7; gets 1 0 = 850/1; gets 1 1 = 790/1; gets 1 2 = 550/1; "
                + "gets 2 0 = 850/1; gets 2 1 = 790/1; gets 2 2 = 550/1; ";
        for (int manner = 0; manner < 3; manner++) {
            for (int spread = 0; spread < 3; spread++) {
                // whatever they are, and they stay so
                Edge.run(MIXED + "setting 0 " + manner + "; setting 1 " + spread + "; " + wants + "setting 0 0 = " + manner
                        + "; setting 1 0 = " + spread);
            }
        }
        Edge.run("gets 0 0 = 0/1; gets 2 2 = 0/1; wrong 0; settle 0 1000000; gets 0 0 = 1000000/1; gets 1 1 = 1000000/1");
        Edge.run(Edge.SIX + "settle 0 1000000; settle 1 1000000; settle 2 1000000; settle 3 1000000; settle 4 1000000; "
                + "settle 5 1000000; gets 0 0 = 6000000/1; gets 2 1 = 6000000/1");
        // a pair settled once
        Edge.run("loss 60; wrong 1; wrong 1; wrong 1; pair 0 2; settle 0 7; gets 0 0 = 60/1; gets 1 0 = 27/1");
        Edge.promise(18, "LOST: OUTSIDE.");
        Edge.outside(MIXED, "gets # 0 0", 0, 2, "LOST");
        Edge.outside(MIXED, "gets # 2 1", 0, 2, "LOST");
        Edge.outside(MIXED, "gets 0 # 0", 0, 2, "LOST");
        Edge.outside(MIXED, "gets 2 # 1", 0, 2, "LOST");
        noWhich(MIXED, "gets 0 0");
        noWhich(MIXED, "gets 2 2");
        noWhich("", "gets 0 0");
    }

    private static void bestManner() {
        Edge.promise(19, "The MANNER by which that would be the most, with SPREAD as it is");
        String two = "loss 1000; claimant 2; wrong 2; wrong 1; settle 0 ";
        for (int manner = 0; manner < 3; manner++) {
            String now = "setting 0 " + manner + "; ";
            Edge.run(now + two + "401; bestManner = 1; setting 0 0 = " + manner);
            Edge.run(now + two + "399; bestManner = 0; setting 0 0 = " + manner);
        }
        // by less than a whole
        Edge.run("loss 1000; wrong 1; wrong 2; settle 0 334; gets 0 0 = 1000/1; gets 1 0 = 3002/3; bestManner = 1");
        Edge.run("loss 1000; wrong 1; wrong 2; settle 0 333; gets 0 0 = 1000/1; gets 1 0 = 2999/3; bestManner = 0");
        // one settled for less than its part, one for more: each manner gives another amount
        Edge.run("loss 900; wrong 1; wrong 1; wrong 1; settle 0 100; settle 1 400; gets 0 0 = 900/1; gets 1 0 = 800/1; gets 2 0 = 700/1; "
                + "bestManner = 0; reopen 0; settle 0 250; gets 0 0 = 900/1; gets 1 0 = 950/1; gets 2 0 = 850/1; bestManner = 1");
        // by the spread: what is missed anyway makes no difference
        Edge.run("loss 1000; wrong 1; wrong 1; wrong 0; settle 0 501; bestManner = 1; broke 1 1; bestManner = 0; setting 1 1; "
                + "bestManner = 0; setting 1 2; bestManner = 0; weight 2 1; bestManner = 1; setting 1 0; bestManner = 1");
        // great weights, whose shares have great lower numbers
        Edge.run("loss 999983; claimant 97; wrong 89; wrong 83; wrong 79; wrong 73; wrong 71; wrong 67; setting 1 1; broke 4 1; "
                + "settle 0 159211; bestManner = 1; reopen 0; settle 0 159210; bestManner = 0");
        Edge.promise(19, "(of several the least).");
        Edge.run("bestManner = 0; setting 0 2; bestManner = 0; loss 1000; wrong 1; bestManner = 0; settle 0 1000; bestManner = 0");
        Edge.run("setting 0 1; " + two + "400; bestManner = 0; reopen 0; bestManner = 0");
        Edge.run("setting 0 2; loss 1000; wrong 1; wrong 1; settle 0 600; broke 1 1; bestManner = 0; broke 1 0; bestManner = 1");
        // no manner leaves a rest, since the claimant is barred
        Edge.run("loss 1000; claimant 1; wrong 1; wrong 1; settle 0 900; bestManner = 1; setting 2 0; bestManner = 0");
    }

    private static void saves() {
        Edge.promise(20, "How much less the UNIT's DUE and what it SETTLED for, together, would be, if the UNIT of a WRONGDOER were "
                + "SETTLED for v than if it were OPEN");
        Edge.run("loss 600; wrong 1; wrong 2; saves 0 0 = 200/1; saves 0 199 = 1/1; saves 0 200 = 0/1; saves 1 0 = 400/1; "
                + "broke 1 1; saves 0 0 = 600/1; saves 1 0 = 0/1; pair 0 1; saves 0 0 = 600/1; saves 1 0 = 600/1");
        // settled already: as if it were not, and it stays so
        Edge.run("loss 600; wrong 1; wrong 2; settle 0 50; saves 0 0 = 200/1; saves 0 150 = 50/1; ofWrong 0 4 = 50; ofWrong 0 3 = 1; "
                + "saves 1 0 = 550/1");
        Edge.run("loss 600; wrong 1; wrong 2; wrong 3; pair 0 1; settle 1 50; saves 0 0 = 300/1; saves 1 100 = 200/1; ofWrong 0 4 = 50");
        // settled and broke: it would owe nothing, were it open
        Edge.run("loss 600; wrong 1; wrong 2; settle 0 50; broke 0 1; saves 0 0 = 0/1; saves 0 7 = -7/1; broke 0 0; saves 0 7 = 193/1");
        Edge.run("loss 600; wrong 1; wrong 2; wrong 3; pair 0 1; settle 0 50; broke 0 1; saves 0 0 = 300/1; broke 1 1; saves 0 0 = 0/1");
        // by MANNER and SPREAD as they are
        String others = "loss 600; wrong 1; wrong 2; wrong 3; settle 2 100; broke 1 1; ";
        Edge.run(others + "saves 0 0 = 500/1; setting 1 2; saves 0 0 = 500/3; setting 0 1; saves 0 0 = 100/1; setting 0 2; "
                + "setting 1 0; saves 0 0 = 300/1");
        // what it paid is no hindrance, and takes nothing off
        Edge.run("loss 600; wrong 1; wrong 2; pay 0 150; saves 0 100 = 100/1; ofWrong 0 5 = 150; ofWrong 0 3 = 0");
        Edge.promise(20, "(below 0: more).");
        Edge.run("loss 600; wrong 1; wrong 2; saves 0 201 = -1/1; saves 0 1000000 = -999800/1; broke 0 1; saves 0 1 = -1/1; "
                + "saves 0 1000000 = -1000000/1; loss 0; saves 1 1000000 = -1000000/1");
        Edge.run("loss 100; wrong 1; wrong 2; saves 0 33 = 1/3; saves 0 34 = -2/3; saves 1 1000000 = -2999800/3");
        Edge.promise(20, "LOST: UNKNOWN;");
        Edge.unknown("saves # 0 0", "LOST");
        Edge.unknown("saves # 1000000 1", "LOST");
        Edge.promise(20, "OUTSIDE: v (0 .. 1000000),");
        for (int which = 0; which < 2; which++) {
            Edge.outside(MIXED, "saves 0 # " + which, 0, 1000000, "LOST");
            Edge.outside(MIXED, "saves 1 # " + which, 0, 1000000, "LOST");
        }
        Edge.promise(20, "which.");
        noWhich(MIXED, "saves 0 0");
        noWhich(MIXED, "saves 1 1000000");
    }

    private static void misses() {
        Edge.promise(21, "How much more would be MISSED, if a WRONGDOER were BROKE than if it were not.");
        String three = "loss 600; claimant 1; wrong 1; wrong 2; wrong 2; ";
        // broke now or not, it stays as it is
        for (int is = 0; is < 2; is++) {
            String now = three + "broke 1 " + is + "; ";
            Edge.run(now + "misses 1 = 0/1; setting 1 1; misses 1 = 50/1; setting 1 2; misses 1 = 200/1; ofWrong 1 1 = " + is);
        }
        // the last one that is not broke
        Edge.run(three + "broke 0 1; broke 1 1; misses 2 = 500/1; setting 1 1; misses 2 = 400/1; setting 1 2; misses 2 = 200/1");
        // of a pair only when the other one is broke, too
        Edge.run(three + "setting 1 2; pair 0 1; misses 0 = 0/1; misses 1 = 0/1; broke 1 1; misses 0 = 300/1; misses 1 = 0/1");
        // settled, without weight, without a rest
        Edge.run(three + "setting 1 2; settle 1 0; misses 1 = 0/1; weight 0 0; misses 0 = 0/1; loss 0; misses 2 = 0/1");
        Edge.run("loss 600; wrong 0; misses 0 = 0/1; weight 0 1; misses 0 = 600/1; setting 1 1; misses 0 = 600/1; setting 1 2; misses 0 = 600/1");
        // by MANNER as it is
        Edge.run("loss 600; wrong 1; wrong 2; wrong 3; settle 2 100; setting 1 2; misses 1 = 1000/3; setting 0 1; misses 1 = 200/1; "
                + "setting 0 2; misses 1 = 200/1");
        Edge.run("loss 600; wrong 1; wrong 2; wrong 3; settle 2 100; setting 1 2; broke 0 1; misses 1 = 1000/3; setting 0 1; misses 1 = 200/1");
        greatestMisses();
        Edge.promise(21, "LOST: UNKNOWN;");
        Edge.unknown("misses # 0", "LOST");
        Edge.unknown("misses # 1", "LOST");
        Edge.promise(21, "OUTSIDE.");
        noWhich(MIXED, "misses 1");
        noWhich(MIXED, "misses 3");
    }

    /** The greatest lower number found for any share: both parts' lower numbers are too great to be multiplied. */
    private static void greatestMisses() {
        Edge.run("loss 999983; claimant 99; wrong 97; wrong 99; wrong 93; wrong 100; wrong 100; wrong 98; settle 0 0; setting 1 1; "
                + "broke 1 1; amount 3 = 5753089195821/164708600; misses 2 = 3183201685651383/65389314200; broke 2 1; "
                + "amount 3 = 2789376579792/33361895");
    }

    private static void owe() {
        Edge.promise(22, "WRONGDOERS that are OPEN, not BROKE, and owe something, as a set.");
        Edge.run("owe = 0; loss 600; owe = 0; wrong 0; owe = 0; wrong 1; owe = 2; weight 0 100; owe = 3; loss 0; owe = 0; loss 1; owe = 3; "
                + "settle 0 1; owe = 0; reopen 0; settle 0 0; owe = 2; broke 1 1; owe = 0; reopen 0; owe = 1; broke 0 1; owe = 0");
        // of a pair: both, the one that is not broke, none
        Edge.run("loss 600; wrong 0; wrong 3; wrong 1; pair 0 1; owe = 6; broke 1 1; owe = 5; broke 0 1; owe = 4; broke 1 0; owe = 6; "
                + "broke 0 0; settle 0 1; owe = 4; leave 2; owe = 0");
        // what was paid takes nothing off what is owed
        Edge.run("loss 600; wrong 1; wrong 1; pay 0 600; owe = 3; claimant 1; owe = 3; setting 2 0; owe = 0");
    }
}
