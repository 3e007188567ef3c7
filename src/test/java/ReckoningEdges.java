/** The boundary sentences of the terms' paragraphs 2 and 3. */
final class ReckoningEdges {
    private ReckoningEdges() { }

    static void run() {
        parted();
        partedAmongNone();
        entitled();
        entitledWithoutBlame();
        barred();
        creditAsSettled();
        creditByWeight();
        creditGreater();
        restAtLeast0();
        leftOfRest();
        spread0();
        spread1();
        spread2();
        leftOfSpread();
        dueOfUnits();
        dueInNoPair();
        dueInPairBroke();
        dueInPair();
        paid();
        fair();
        over();
        giversAndTakers();
        lesser();
        even();
        runOut();
    }

    // ---- 2: what is owed

    private static void parted() {
        Edge.terms("==== 2 PARTED by WEIGHTS among some: to each the amount times its WEIGHT by those of all of them together");
        Edge.run("loss 1000; wrong 1; due 0 = 1000/1; wrong 2; due 0 = 1000/3; due 1 = 2000/3; wrong 0; due 0 = 1000/3; "
                + "due 2 = 0/1; weight 0 0; due 0 = 0/1; due 1 = 1000/1");
        Edge.run("loss 1000000; wrong 100; wrong 100; wrong 100; wrong 100; wrong 100; wrong 100; due 0 = 500000/3; "
                + "due 5 = 500000/3; amount 4 = 1000000/1");
        Edge.run("loss 1; wrong 100; wrong 1; due 0 = 100/101; due 1 = 1/101");
    }

    private static void partedAmongNone() {
        Edge.terms("(nothing to any, if that is 0: all of it is LEFT then).");
        Edge.run("loss 100; wrong 10; wrong 0; wrong 0; settle 0 30; amount 2 = 70/1; due 1 = 0/1; unitDue 2 = 0/1; "
                + "amount 4 = 0/1; amount 3 = 70/1; owe = 0; weight 2 1; amount 3 = 0/1");
        for (int spread = 0; spread < 3; spread++) {
            Edge.run("loss 100; wrong 10; wrong 0; wrong 0; settle 0 30; claimant 5; broke 1 1; setting 1 " + spread
                    + "; amount 2 = 110/3; due 1 = 0/1; due 2 = 0/1; amount 4 = 0/1; amount 3 = 110/3");
        }
    }

    private static void entitled() {
        Edge.terms("ENTITLED: LOSS times (BLAME less the CLAIMANT's WEIGHT) by BLAME;");
        Edge.run("amount 0 = 0/1; loss 1000000; amount 0 = 0/1; claimant 100; amount 0 = 0/1; wrong 1; amount 0 = 1000000/101; "
                + "weight 0 100; amount 0 = 500000/1; claimant 0; amount 0 = 1000000/1; loss 0; amount 0 = 0/1; "
                + "loss 1; amount 0 = 1/1");
        Edge.run("loss 1000000; claimant 100; wrong 100; wrong 100; wrong 100; wrong 100; wrong 100; wrong 100; "
                + "amount 0 = 6000000/7; settle 0 5; broke 1 1; amount 0 = 6000000/7");
        Edge.run("loss 1; claimant 1; wrong 100; wrong 100; wrong 100; wrong 100; wrong 100; wrong 100; amount 0 = 600/601");
    }

    private static void entitledWithoutBlame() {
        Edge.terms("0, if BLAME is 0,");
        for (int bar : new int[] {0, 1, 99, 100}) {
            Edge.run("loss 1000000; setting 2 " + bar + "; amount 0 = 0/1; amount 2 = 0/1; amount 3 = 0/1; amount 4 = 0/1; "
                    + "wrong 0; wrong 0; amount 0 = 0/1; amount 2 = 0/1; amount 3 = 0/1; amount 4 = 0/1; due 0 = 0/1; "
                    + "weight 1 1; amount 0 = 1000000/1");
        }
    }

    private static void barred() {
        Edge.terms("or 100 times the CLAIMANT's WEIGHT is more than BAR times BLAME.");
        // just as much is not more
        Edge.run("loss 1000; claimant 40; wrong 40; setting 2 50; amount 0 = 500/1; setting 2 49; amount 0 = 0/1; "
                + "setting 2 50; claimant 41; amount 0 = 0/1; weight 0 41; amount 0 = 500/1; weight 0 42; amount 0 = 42000/83");
        Edge.run("loss 1000; claimant 30; wrong 40; setting 2 42; amount 0 = 0/1; setting 2 43; amount 0 = 4000/7");
        // BAR 0 bars whoever has a weight, and nobody else
        Edge.run("loss 1000; wrong 1; setting 2 0; amount 0 = 1000/1; claimant 1; amount 0 = 0/1; claimant 100; amount 0 = 0/1; "
                + "claimant 0; amount 0 = 1000/1");
        // BAR 100 bars nobody
        Edge.run("loss 1010; claimant 100; amount 0 = 0/1; wrong 1; amount 0 = 10/1; setting 2 99; amount 0 = 0/1");
        Edge.run("loss 1000; claimant 99; wrong 1; setting 2 99; amount 0 = 10/1; setting 2 98; amount 0 = 0/1");
        Edge.run("loss 1000; claimant 1; wrong 99; setting 2 1; amount 0 = 990/1; weight 0 98; amount 0 = 0/1");
        Edge.run("loss 700; claimant 100; wrong 100; wrong 100; wrong 100; wrong 100; wrong 100; wrong 100; setting 2 15; "
                + "amount 0 = 600/1; setting 2 14; amount 0 = 0/1; amount 2 = 0/1; amount 4 = 0/1; amount 3 = 0/1; owe = 0");
    }

    private static void creditAsSettled() {
        Edge.terms("CREDIT of a SETTLED UNIT: by MANNER 0 what it SETTLED for;");
        Edge.run("wrong 0; settle 0 0; credit 0 = 0/1; reopen 0; settle 0 1000000; credit 0 = 1000000/1; amount 1 = 1000000/1; "
                + "loss 5; credit 0 = 1000000/1; weight 0 100; claimant 7; credit 0 = 1000000/1; setting 2 0; credit 0 = 1000000/1");
        Edge.run(Edge.SIX + "settle 0 1000000; settle 1 1000000; settle 2 1000000; settle 3 1000000; settle 4 1000000; "
                + "settle 5 1000000; amount 1 = 6000000/1; amount 2 = 0/1");
        Edge.run(Edge.SIX + "pair 0 1; pair 2 3; pair 4 5; settle 0 1000000; settle 3 1000000; settle 4 1; amount 1 = 2000001/1");
    }

    private static void creditByWeight() {
        Edge.terms("1 LOSS times its WEIGHT by BLAME (0, if BLAME is 0);");
        Edge.run("setting 0 1; loss 1000; wrong 0; settle 0 77; credit 0 = 0/1; amount 1 = 0/1; weight 0 1; credit 0 = 1000/1; "
                + "claimant 2; credit 0 = 1000/3; weight 0 0; credit 0 = 0/1; claimant 0; credit 0 = 0/1; loss 0; weight 0 9; "
                + "credit 0 = 0/1");
        Edge.run("setting 0 1; loss 1000000; claimant 100; wrong 100; wrong 100; wrong 100; wrong 100; wrong 100; wrong 100; "
                + "pair 0 5; settle 5 0; credit 0 = 2000000/7; settle 1 0; amount 1 = 3000000/7");
        // by the loss, though the claimant is barred
        Edge.run("setting 0 1; loss 1000; claimant 1; wrong 1; wrong 2; setting 2 0; settle 0 5; credit 0 = 250/1; amount 2 = 0/1");
    }

    private static void creditGreater() {
        Edge.terms("2 the greater of both.");
        String settledFor = "setting 0 2; loss 1000; claimant 2; wrong 2; wrong 1; settle 0 ";
        Edge.run(settledFor + "399; credit 0 = 400/1; amount 1 = 400/1");
        Edge.run(settledFor + "400; credit 0 = 400/1");
        Edge.run(settledFor + "401; credit 0 = 401/1; amount 1 = 401/1");
        Edge.run(settledFor + "0; credit 0 = 400/1; weight 0 0; credit 0 = 0/1");
        // a fraction apart
        Edge.run("setting 0 2; loss 1000; wrong 1; wrong 2; settle 0 333; credit 0 = 1000/3; reopen 0; settle 0 334; credit 0 = 334/1");
        // without blame nothing comes by weight
        Edge.run("setting 0 2; loss 1000; wrong 0; settle 0 0; credit 0 = 0/1; reopen 0; settle 0 1; credit 0 = 1/1");
        // of each unit on its own
        Edge.run("setting 0 2; loss 900; wrong 1; wrong 1; wrong 1; settle 0 100; settle 1 400; amount 1 = 700/1; amount 2 = 200/1");
    }

    private static void restAtLeast0() {
        Edge.terms("REST: ENTITLED less all CREDITS, 0 at least.");
        String settledFor = "loss 100; wrong 1; wrong 1; settle 0 ";
        Edge.run(settledFor + "99; amount 2 = 1/1; due 1 = 1/1; amount 4 = 1/1; owe = 2");
        Edge.run(settledFor + "100; amount 2 = 0/1; due 1 = 0/1; amount 4 = 0/1; amount 3 = 0/1; owe = 0");
        Edge.run(settledFor + "101; amount 2 = 0/1; due 1 = 0/1; amount 4 = 0/1; amount 3 = 0/1; owe = 0");
        Edge.run(settledFor + "1000000; amount 2 = 0/1; due 1 = 0/1; amount 4 = 0/1; amount 3 = 0/1; gets 0 0 = 1000000/1");
        // by less than a whole
        String entitled200by3 = "loss 100; claimant 1; wrong 1; wrong 1; settle 0 ";
        Edge.run(entitled200by3 + "66; amount 2 = 2/3");
        Edge.run(entitled200by3 + "67; amount 2 = 0/1");
        Edge.run("loss 100; wrong 1; amount 2 = 100/1; settle 0 0; amount 2 = 100/1; claimant 1; setting 2 0; amount 2 = 0/1");
    }

    private static void leftOfRest() {
        Edge.terms("REST is PARTED among all OPEN UNITS (what is LEFT is MISSED).");
        // no open unit at all, and only open ones without weight
        for (int spread = 0; spread < 3; spread++) {
            Edge.run("setting 1 " + spread + "; loss 100; claimant 1; wrong 1; settle 0 10; amount 2 = 40/1; amount 3 = 40/1; "
                    + "amount 4 = 0/1; wrong 0; amount 3 = 40/1; broke 1 1; amount 3 = 40/1; amount 4 = 0/1; due 1 = 0/1");
        }
        Edge.run("loss 100; wrong 1; wrong 2; wrong 1; settle 0 60; unitDue 1 = 80/3; unitDue 2 = 40/3; amount 3 = 0/1");
        Edge.run("loss 100; claimant 1; amount 2 = 0/1; amount 3 = 0/1");
    }

    private static void spread0() {
        Edge.terms("What comes to those that are BROKE, together: by SPREAD 0 PARTED among the OPEN ones that are not BROKE;");
        String four = "loss 600; claimant 3; wrong 1; wrong 2; wrong 0; wrong 6; ";
        Edge.run(four + "due 0 = 50/1; due 1 = 100/1; broke 3 1; due 0 = 150/1; due 1 = 300/1; due 2 = 0/1; due 3 = 0/1; "
                + "amount 3 = 0/1; broke 1 1; due 0 = 450/1; amount 4 = 450/1");
        // not on a settled one, nor on the claimant
        Edge.run(four + "settle 1 0; broke 3 1; due 0 = 450/1; due 1 = 0/1; amount 3 = 0/1");
        // who is broke without weight takes nothing along
        Edge.run(four + "broke 2 1; due 0 = 50/1; due 3 = 300/1; amount 3 = 0/1");
        // a settled one that is broke is not among them
        Edge.run(four + "settle 3 300; broke 3 1; due 0 = 50/1; amount 3 = 0/1");
    }

    private static void spread1() {
        Edge.terms("1 among these and the CLAIMANT (what comes to the CLAIMANT is MISSED);");
        String four = "setting 1 1; loss 600; claimant 3; wrong 1; wrong 2; wrong 0; wrong 6; ";
        Edge.run(four + "amount 3 = 0/1; broke 3 1; due 0 = 100/1; due 1 = 200/1; due 2 = 0/1; due 3 = 0/1; amount 3 = 150/1; "
                + "amount 4 = 300/1");
        // a claimant without weight misses nothing
        Edge.run(four + "claimant 0; broke 3 1; due 0 = 200/1; due 1 = 400/1; amount 3 = 0/1");
        // the claimant alone is left to bear it
        Edge.run(four + "broke 3 1; broke 0 1; broke 1 1; amount 3 = 450/1; amount 4 = 0/1; due 2 = 0/1");
        Edge.run(four + "broke 3 1; broke 0 1; broke 1 1; broke 2 1; amount 3 = 450/1; amount 4 = 0/1");
    }

    private static void spread2() {
        Edge.terms("2 it is MISSED, all of it.");
        String four = "setting 1 2; loss 600; claimant 3; wrong 1; wrong 2; wrong 0; wrong 6; ";
        Edge.run(four + "amount 3 = 0/1; broke 3 1; due 0 = 50/1; due 1 = 100/1; due 3 = 0/1; amount 3 = 300/1; amount 4 = 150/1; "
                + "broke 1 1; amount 3 = 400/1; broke 2 1; amount 3 = 400/1; broke 0 1; amount 3 = 450/1; amount 4 = 0/1");
    }

    private static void leftOfSpread() {
        Edge.terms("What is LEFT of it by 0, 1 is MISSED.");
        // all open units are broke; those that are not have no weight
        for (String settings : new String[] {"setting 1 0; claimant 3; ", "setting 1 0; ", "setting 1 1; "}) {
            String want = settings.contains("claimant") ? "400/1" : "1000/1";
            Edge.run(settings + "loss 1000; wrong 2; wrong 0; broke 0 1; broke 1 1; amount 2 = " + want + "; amount 3 = " + want
                    + "; amount 4 = 0/1; broke 1 0; amount 3 = " + want + "; due 1 = 0/1; owe = 0; leave 1; amount 3 = " + want);
        }
        // a settled one is no one on whom it could come
        Edge.run("loss 1000; wrong 1; wrong 1; settle 0 100; broke 1 1; amount 3 = 900/1; setting 1 1; amount 3 = 900/1");
    }

    private static void dueOfUnits() {
        Edge.terms("DUE of an OPEN UNIT that is not BROKE: what came to it by both; of others 0.");
        Edge.run("loss 600; wrong 1; wrong 2; wrong 3; unitDue 2 = 300/1; broke 0 1; unitDue 2 = 360/1; unitDue 1 = 240/1; "
                + "unitDue 0 = 0/1; broke 0 0; settle 0 0; unitDue 0 = 0/1; broke 0 1; unitDue 0 = 0/1; reopen 0; unitDue 0 = 0/1; "
                + "broke 0 0; unitDue 0 = 100/1");
        Edge.run("loss 600; wrong 1; wrong 2; wrong 3; pair 0 1; broke 0 1; unitDue 0 = 300/1; unitDue 1 = 300/1; broke 1 1; "
                + "unitDue 0 = 0/1; unitDue 1 = 0/1; unitDue 2 = 600/1; broke 0 0; settle 0 0; unitDue 0 = 0/1; unitDue 1 = 0/1");
    }

    private static void dueInNoPair() {
        Edge.terms("DUE of a WRONGDOER: in no PAIR: that of its UNIT;");
        Edge.run("loss 600; wrong 1; wrong 2; due 1 = 400/1; unitDue 1 = 400/1; broke 0 1; due 0 = 0/1; due 1 = 600/1; "
                + "settle 1 5; due 1 = 0/1; due 0 = 0/1");
        Edge.run("loss 600; wrong 1; wrong 2; pair 0 1; broke 0 1; due 1 = 600/1; part 0; due 0 = 0/1; setting 1 2; due 1 = 400/1");
    }

    private static void dueInPairBroke() {
        Edge.terms("in a PAIR: 0, if it is BROKE; else all of the UNIT's, if the other one is BROKE;");
        Edge.run("loss 600; wrong 1; wrong 2; wrong 3; pair 0 1; broke 0 1; due 0 = 0/1; due 1 = 300/1; broke 0 0; broke 1 1; "
                + "due 0 = 300/1; due 1 = 0/1; broke 0 1; due 0 = 0/1; due 1 = 0/1; due 2 = 600/1");
        // the one that is not broke has no weight of its own, or has all of it
        Edge.run("loss 600; wrong 0; wrong 3; wrong 3; pair 0 1; broke 1 1; due 0 = 300/1; owe = 5; broke 0 1; broke 1 0; "
                + "due 0 = 0/1; due 1 = 300/1; owe = 6");
        Edge.run("loss 600; wrong 1; wrong 2; wrong 3; pair 0 1; broke 0 1; settle 0 5; due 1 = 0/1; due 0 = 0/1");
    }

    private static void dueInPair() {
        Edge.terms("else that PARTED among both (half of it to each, if both WEIGHTS are 0).");
        Edge.run("loss 600; wrong 1; wrong 2; wrong 3; pair 1 0; due 0 = 100/1; due 1 = 200/1; weight 0 0; due 0 = 0/1; "
                + "due 1 = 240/1; weight 1 0; due 0 = 0/1; due 1 = 0/1; due 2 = 600/1");
        // a unit without weight has no DUE, so the halves are nothing, by each spread
        for (int spread = 0; spread < 3; spread++) {
            Edge.run("setting 1 " + spread + "; loss 600; claimant 1; wrong 0; wrong 0; pair 0 1; due 0 = 0/1; due 1 = 0/1; "
                    + "wrong 3; broke 2 1; unitDue 0 = 0/1; due 0 = 0/1; due 1 = 0/1; amount 4 = 0/1; owe = 0; broke 0 1; "
                    + "due 0 = 0/1; due 1 = 0/1");
        }
    }

    // ---- 3: what was paid

    private static void paid() {
        Edge.terms("==== 3 PAID: whole numbers that WRONGDOERS paid.");
        Edge.run("loss 100; wrong 1; wrong 2; ofWrong 0 5 = 0; many 5 = 0; pay 0 1 = 1; pay 0 2 = 3; pay 1 97 = 97; ofWrong 0 5 = 3; "
                + "ofWrong 1 5 = 97; many 5 = 100; leave 0; many 5 = 97; refund 1 = 97; many 5 = 0");
    }

    private static void fair() {
        Edge.terms("FAIR of a WRONGDOER: all that was PAID, by all, times its DUE by all DUES together (0, if these are 0).");
        String paid = "loss 300; wrong 1; wrong 2; wrong 0; pay 0 30; pay 2 15; ";
        Edge.run(paid + "fair 0 = 15/1; fair 1 = 30/1; fair 2 = 0/1");
        Edge.run(paid + "loss 0; fair 0 = 0/1; fair 1 = 0/1; fair 2 = 0/1");
        Edge.run(paid + "broke 0 1; broke 1 1; fair 0 = 0/1; fair 1 = 0/1; fair 2 = 0/1");
        Edge.run(paid + "settle 1 300; fair 0 = 0/1; fair 1 = 0/1");
        Edge.run(paid + "claimant 1; setting 2 0; fair 0 = 0/1; fair 1 = 0/1");
        Edge.run(paid + "weight 0 0; weight 1 0; fair 0 = 0/1; fair 1 = 0/1");
        // all DUES are as little as can be: still all that was PAID is shared out
        Edge.run(paid + "loss 1; fair 0 = 15/1; fair 1 = 30/1");
        Edge.run("loss 300; wrong 1; wrong 2; fair 0 = 0/1; fair 1 = 0/1");
        Edge.run("loss 1000000; wrong 100; wrong 99; pay 0 1000000; fair 0 = 100000000/199; fair 1 = 99000000/199");
    }

    private static void over() {
        Edge.terms("OVER of it: what it PAID less FAIR.");
        Edge.run("loss 300; wrong 1; wrong 2; wrong 0; pay 0 30; pay 2 15; over 0 = 15/1; over 1 = -30/1; over 2 = 15/1; pay 1 30; "
                + "over 0 = 5/1; over 1 = -20/1; loss 0; over 0 = 30/1; over 1 = 30/1; over 2 = 15/1");
        Edge.run("loss 1000000; wrong 100; wrong 99; pay 0 1000000; over 0 = 99000000/199; over 1 = -99000000/199");
        Edge.run("loss 3; wrong 1; wrong 2; pay 0 1; pay 1 2; over 0 = 0/1; over 1 = 0/1");
    }

    private static void giversAndTakers() {
        Edge.terms("GIVERS are those whose OVER is below 0, TAKERS those whose OVER is above 0, by number.");
        // 1 and 3 are even from the start
        Edge.run("loss 600; wrong 1; wrong 1; wrong 1; wrong 1; wrong 1; pay 1 10; pay 3 10; pay 4 30; transfers = 2; "
                + "transfer 0 0 = 0; transfer 0 1 = 4; transfer 1 0 = 2; transfer 1 1 = 4; given 0 = 10/1; given 1 = 10/1");
        // by number, whoever paid first
        Edge.run("loss 600; wrong 1; wrong 1; wrong 1; pay 2 6; pay 1 6; transfers = 2; transfer 0 0 = 0; transfer 0 1 = 1; "
                + "transfer 1 0 = 0; transfer 1 1 = 2; given 0 = 2/1; given 1 = 2/1");
        // who came first, but has a greater number than one that came later
        Edge.run("loss 600; wrong 1; wrong 1; wrong 1; leave 0; wrong 1; pay 2 6; transfers = 2; transfer 0 0 = 0; transfer 1 0 = 1; "
                + "refund 2; pay 0 6; transfer 0 0 = 1; transfer 1 0 = 2");
        // a number that is not in the case neither gives nor takes
        Edge.run("loss 600; wrong 1; wrong 1; wrong 1; leave 0; pay 1 6; transfers = 1; transfer 0 0 = 2; transfer 0 1 = 1; given 0 = 3/1");
        Edge.run("loss 600; wrong 1; wrong 1; wrong 1; pay 0 9; leave 0; transfers = 0; pay 2 6; transfers = 1; transfer 0 1 = 2");
        // above and below by the least there can be
        Edge.run("loss 600; wrong 1; wrong 100; wrong 100; wrong 100; pay 1 1; pay 2 1; pay 3 1; transfers = 3; "
                + "given 0 = 1/301; given 1 = 1/301; given 2 = 1/301; transfer 0 0 = 0; transfer 2 0 = 0; transfer 2 1 = 3");
    }

    private static void lesser() {
        Edge.terms("TRANSFERS: the first GIVER gives the first TAKER as much as it lacks, or as much as that has too much, the lesser;");
        // the giver lacks less
        Edge.run("loss 600; wrong 1; wrong 2; wrong 3; pay 2 12; given 0 = 2/1; given 1 = 4/1; transfers = 2");
        // the taker has less too much
        Edge.run("loss 600; wrong 4; wrong 1; wrong 1; pay 1 6; pay 2 6; transfers = 2; given 0 = 4/1; given 1 = 4/1; transfer 1 0 = 0");
        // both alike
        Edge.run("loss 600; wrong 1; wrong 1; pay 1 6; transfers = 1; given 0 = 3/1; transfer 0 0 = 0; transfer 0 1 = 1");
        Edge.run("loss 1000000; wrong 100; wrong 100; pay 0 1000000; given 0 = 500000/1; transfer 0 0 = 1; transfer 0 1 = 0");
    }

    private static void even() {
        Edge.terms("who is even then is left out; and so on,");
        // giver and taker are even at once: both are left out, and the next two go on
        Edge.run("loss 600; wrong 1; wrong 1; wrong 1; wrong 1; pay 0 6; pay 1 6; transfers = 2; transfer 0 0 = 2; transfer 0 1 = 0; "
                + "transfer 1 0 = 3; transfer 1 1 = 1; given 0 = 3/1; given 1 = 3/1");
        // a taker is even first, then a giver, and a taker again
        Edge.run("loss 600; wrong 1; wrong 1; wrong 1; wrong 1; wrong 1; wrong 1; pay 0 8; pay 1 14; pay 2 14; transfers = 5; "
                + "transfer 0 0 = 3; transfer 0 1 = 0; given 0 = 2/1; transfer 1 0 = 3; transfer 1 1 = 1; given 1 = 4/1; "
                + "transfer 2 0 = 4; transfer 2 1 = 1; given 2 = 4/1; transfer 3 0 = 4; transfer 3 1 = 2; given 3 = 2/1; "
                + "transfer 4 0 = 5; transfer 4 1 = 2; given 4 = 6/1");
    }

    private static void runOut() {
        Edge.terms("till no GIVERS, or no TAKERS are left.");
        // nobody at all; nobody who paid; nobody who gives, since nobody has a DUE; nobody who lacks or has too much
        Edge.run("transfers = 0; transfer 0 0 = NONE; given 0 = LOST; wrong 1; transfers = 0; loss 9; transfers = 0; pay 0 9; "
                + "transfers = 0; transfer 0 0 = NONE; loss 0; transfers = 0; over 0 = 9/1; transfer 0 0 = NONE; given 0 = LOST");
        Edge.run("loss 9; wrong 1; wrong 1; pay 0 9; transfers = 1; broke 1 1; transfers = 0; broke 1 0; broke 0 1; transfers = 1; "
                + "given 0 = 9/1; transfer 0 0 = 1; broke 1 1; transfers = 0; over 0 = 9/1");
        // one who takes from all the others, and one who gives to them all
        Edge.run("loss 600; wrong 1; wrong 1; wrong 1; wrong 1; wrong 1; wrong 1; pay 5 6; transfers = 5; transfer 4 0 = 4; "
                + "transfer 4 1 = 5; transfer 5 0 = NONE; given 4 = 1/1; given 5 = LOST");
        Edge.run("loss 600; wrong 5; wrong 1; wrong 1; wrong 1; wrong 1; wrong 1; pay 1 2; pay 2 2; pay 3 2; pay 4 2; pay 5 2; "
                + "transfers = 5; transfer 4 0 = 0; transfer 4 1 = 5; transfer 5 1 = NONE; given 4 = 1/1; given 5 = LOST");
    }
}
