/** The sentences of promises 23 to 30. */
final class PaidEdges {
    /** 0 has paid 4 too much, 1 is even, 2 and 3 lack 1 and 3. */
    private static final String PAID = "loss 100; wrong 2; wrong 3; wrong 1; wrong 4; pay 0 6; pay 1 3; pay 3 1; ";

    private PaidEdges() { }

    static void run() {
        pay();
        payStates();
        payTooMuch();
        refund();
        fair();
        over();
        transfers();
        transfer();
        given();
        many();
    }

    private static void pay() {
        Edge.promise(23, "A WRONGDOER PAYS v (1 .. 1000000) more: what it PAID in all.");
        Edge.run("loss 1000000; wrong 1; wrong 0; pay 0 1 = 1; pay 0 1 = 2; pay 0 999997 = 999999; pay 1 1 = 1; many 5 = 1000000");
        Edge.run("loss 1000000; wrong 1; pay 0 1000000 = 1000000; many 5 = 1000000; refund 0; pay 0 999999 = 999999; pay 0 1 = 1000000");
        // more than its own DUE, and one without a DUE
        Edge.run("loss 100; wrong 1; wrong 9; wrong 0; pay 0 60 = 60; pay 2 40 = 40; many 5 = 100; ofWrong 1 5 = 0");
        // one of a pair whose other one is broke
        Edge.run("loss 100; wrong 1; wrong 9; pair 0 1; broke 1 1; pay 0 100 = 100; ofWrong 1 5 = 0");
        Edge.promise(23, "UNKNOWN;");
        Edge.unknown("pay # 1", "UNKNOWN");
        Edge.unknown("pay # 0", "UNKNOWN");
        Edge.unknown("pay # 1000000", "UNKNOWN");
        Edge.promise(23, "OUTSIDE;");
        Edge.outside("loss 1000000; wrong 1", "pay 0 #", 1, 1000000, "OUTSIDE");
        Edge.outside("loss 1000000; wrong 1; pay 0 1000000", "pay 0 #", 1, 1000000, "OUTSIDE");
        Edge.outside("loss 1000000; wrong 1; broke 0 1", "pay 0 #", 1, 1000000, "OUTSIDE");
        Edge.outside("loss 1000000; wrong 1; settle 0 5", "pay 0 #", 1, 1000000, "OUTSIDE");
    }

    private static void payStates() {
        Edge.promise(23, "STATE: it is BROKE,");
        String three = "loss 1000; wrong 1; wrong 2; wrong 3; ";
        for (int v : new int[] {1, 1000000}) {
            Edge.refused(three + "broke 0 1", "pay 0 " + v, "STATE");
            Edge.refused(three + "pay 0 5; broke 0 1", "pay 0 " + v, "STATE");
            Edge.refused(three + "pair 0 1; broke 0 1", "pay 0 " + v, "STATE");
        }
        Edge.run(three + "broke 0 1; pay 0 1 = STATE; pay 1 1 = 1; broke 0 0; pay 0 1 = 1");
        Edge.promise(23, "its UNIT is SETTLED,");
        for (int v : new int[] {1, 1000000}) {
            Edge.refused(three + "settle 0 0", "pay 0 " + v, "STATE");
            Edge.refused(three + "pair 0 1; settle 0 5", "pay 0 " + v, "STATE");
            Edge.refused(three + "pair 0 1; settle 0 5", "pay 1 " + v, "STATE");
            Edge.refused(three + "broke 0 1; settle 0 5", "pay 0 " + v, "STATE");
        }
        Edge.run(three + "settle 0 5; pay 0 1 = STATE; pay 1 1 = 1; reopen 0; pay 0 1 = 1");
    }

    private static void payTooMuch() {
        Edge.promise(23, "all that is PAID would be more than all DUES.");
        // just all of it, and 1 more, by one or by several
        Edge.run("loss 100; wrong 1; wrong 1; pay 0 100 = 100; pay 0 1 = STATE; pay 1 1 = STATE");
        Edge.run("loss 100; wrong 1; wrong 1; pay 0 101 = STATE; pay 0 99 = 99; pay 1 2 = STATE; pay 1 1 = 1; pay 1 1 = STATE");
        Edge.refused("loss 100; wrong 1; wrong 1; pay 0 50; pay 1 50", "pay 1 1", "STATE");
        Edge.refused("loss 100; wrong 1; wrong 1; pay 0 50", "pay 0 51", "STATE");
        Edge.refused("loss 1000000; wrong 1; wrong 1; pay 0 1000000", "pay 0 1000000", "STATE");
        Edge.refused("loss 1000000; wrong 1; wrong 1; pay 0 1000000", "pay 1 1", "STATE");
        // to the fraction: all DUES are 200 by 3, or less than 1
        Edge.run("loss 100; claimant 1; wrong 1; wrong 1; pay 0 67 = STATE; pay 0 66 = 66; pay 1 1 = STATE");
        Edge.refused("loss 1; claimant 1; wrong 100", "pay 0 1", "STATE");
        // no DUES: no loss, none in the case with weight, barred, a claim that is paid off, all that is missed
        Edge.refused("wrong 1", "pay 0 1", "STATE");
        Edge.refused("loss 100; wrong 0", "pay 0 1", "STATE");
        Edge.refused("loss 100; claimant 1; wrong 1; setting 2 0", "pay 0 1", "STATE");
        Edge.refused("loss 100; wrong 1; wrong 1; settle 0 100", "pay 1 1", "STATE");
        Edge.refused("loss 100; wrong 1; wrong 0; broke 0 1", "pay 1 1", "STATE");
        // what was PAID before the DUES became less
        Edge.refused("loss 100; wrong 1; wrong 1; pay 0 60; loss 50", "pay 1 1", "STATE");
        Edge.run("loss 100; wrong 1; wrong 1; pay 0 60; loss 50; pay 1 1 = STATE; loss 61; pay 1 1 = 1; pay 1 1 = STATE");
        Edge.run("loss 100; wrong 1; wrong 1; pay 0 60; leave 0; pay 1 100 = 100");
        // by all DUES, not by the REST
        Edge.run("loss 100; wrong 1; wrong 1; broke 0 1; setting 1 2; pay 1 51 = STATE; pay 1 50 = 50; setting 1 0; pay 1 50 = 100");
    }

    private static void refund() {
        Edge.promise(24, "What a WRONGDOER PAID is given back: how much.");
        Edge.run("loss 1000000; wrong 1; wrong 2; pay 0 1; refund 0 = 1; ofWrong 0 5 = 0; many 5 = 0; pay 0 1000000; refund 0 = 1000000; "
                + "pay 0 5; pay 0 6; pay 1 7; refund 0 = 11; ofWrong 0 5 = 0; ofWrong 1 5 = 7; many 5 = 7");
        // of a broke one, of one in a pair, though nothing is due any more
        Edge.run("loss 100; wrong 1; wrong 2; pay 0 5; pay 1 7; broke 0 1; pair 0 1; loss 0; refund 0 = 5; ofWrong 1 5 = 7; refund 1 = 7");
        Edge.promise(24, "UNKNOWN;");
        Edge.unknown("refund #", "UNKNOWN");
        Edge.refused("loss 9; wrong 1; pay 0 5; leave 0", "refund 0", "UNKNOWN");
        Edge.promise(24, "STATE: nothing.");
        Edge.refused("loss 9; wrong 1", "refund 0", "STATE");
        Edge.refused("loss 9; wrong 1; wrong 2; pay 0 5; pair 0 1", "refund 1", "STATE");
        Edge.refused("loss 9; wrong 1; pay 0 5; refund 0", "refund 0", "STATE");
        Edge.refused("loss 9; wrong 1; wrong 2; pay 0 5; leave 0; wrong 1", "refund 0", "STATE");
        Edge.refused("wrong 1; settle 0 5", "refund 0", "STATE");
    }

    private static void fair() {
        Edge.promise(25, "FAIR of a WRONGDOER.");
        Edge.run(PAID + "fair 0 = 2/1; fair 1 = 3/1; fair 2 = 1/1; fair 3 = 4/1; settle 2 5; fair 0 = 20/9; fair 2 = 0/1; broke 0 1; "
                + "fair 0 = 0/1; fair 1 = 30/7; loss 0; fair 1 = 0/1");
        Edge.promise(25, "LOST: UNKNOWN;");
        Edge.unknown("fair # 0", "LOST");
        Edge.unknown("fair # 1", "LOST");
        Edge.promise(25, "OUTSIDE.");
        noWhich("fair 0");
        noWhich("fair 3");
    }

    private static void noWhich(String call) {
        Edge.outside(PAID, call + " #", 0, 1, "LOST");
    }

    private static void over() {
        Edge.promise(26, "OVER of a WRONGDOER.");
        Edge.run(PAID + "over 0 = 4/1; over 1 = 0/1; over 2 = -1/1; over 3 = -3/1; settle 2 5; over 0 = 34/9; over 2 = 0/1; loss 0; "
                + "over 0 = 6/1; over 1 = 3/1; over 3 = 1/1");
        Edge.run("loss 1000000; wrong 1; wrong 100; pay 0 1000000; over 0 = 100000000/101; over 1 = -100000000/101");
        Edge.promise(26, "LOST: UNKNOWN;");
        Edge.unknown("over # 0", "LOST");
        Edge.unknown("over # 1", "LOST");
        Edge.promise(26, "OUTSIDE.");
        noWhich("over 0");
        noWhich("over 2");
    }

    private static void transfers() {
        Edge.promise(27, "How many TRANSFERS.");
        Edge.run("transfers = 0; loss 600; " + Edge.SIX + "transfers = 0; pay 0 60; transfers = 5; pay 1 2; transfers = 5; refund 0; "
                + "transfers = 5; refund 1; transfers = 0");
        Edge.run(PAID + "transfers = 2; pay 2 1; transfers = 3; loss 0; transfers = 0");
        Edge.run("loss 21; wrong 1; wrong 2; wrong 3; wrong 4; wrong 5; wrong 6; pay 0 1; pay 1 2; pay 2 3; pay 3 4; pay 4 5; "
                + "transfers = 5; pay 5 6; transfers = 0");
    }

    private static void transfer() {
        Edge.promise(28, "Of the k-th TRANSFER (from 0 on): who gives (what 0), who takes (1);");
        Edge.run(PAID + "transfer 0 0 = 2; transfer 0 1 = 0; transfer 1 0 = 3; transfer 1 1 = 0");
        Edge.run("loss 600; " + Edge.SIX + "pay 5 21; transfer 0 0 = 0; transfer 1 0 = 1; transfer 2 0 = 2; transfer 3 0 = 3; "
                + "transfer 4 0 = 4; transfer 4 1 = 5; transfer 0 1 = 5");
        Edge.promise(28, "NONE: there are fewer.");
        for (int what = 0; what < 2; what++) {
            for (int k : new int[] {2, 3, 4, 5, 6, 7, 32, Integer.MAX_VALUE}) {
                Edge.refused(PAID, "transfer " + k + " " + what, "NONE");
            }
            for (int k : new int[] {5, 6, 7, Integer.MAX_VALUE}) {
                Edge.refused("loss 600; " + Edge.SIX + "pay 5 21", "transfer " + k + " " + what, "NONE");
            }
            Edge.refused("", "transfer 0 " + what, "NONE");
            Edge.refused("", "transfer greatest " + what, "NONE");
            Edge.refused("loss 9; wrong 1; pay 0 9", "transfer 0 " + what, "NONE");
        }
        // what there was before is no more
        Edge.run(PAID + "transfer 1 0 = 3; refund 0; refund 1; refund 3; transfer 0 0 = NONE; transfer 1 0 = NONE");
        Edge.promise(28, "OUTSIDE: k is below 0,");
        for (String k : new String[] {"-1", "-2", "-9", "-2147483647", "least"}) {
            for (int what = -1; what <= 2; what++) {
                Edge.refused(PAID, "transfer " + k + " " + what, "OUTSIDE");
                Edge.refused("", "transfer " + k + " " + what, "OUTSIDE");
            }
        }
        Edge.promise(28, "what.");
        for (int k = 0; k < 4; k++) {
            Edge.outside(PAID, "transfer " + k + " #", 0, 1, "OUTSIDE");
        }
        Edge.outside("", "transfer 0 #", 0, 1, "OUTSIDE");
        Edge.outside("", "transfer greatest #", 0, 1, "OUTSIDE");
    }

    private static void given() {
        Edge.promise(29, "How much the k-th TRANSFER is.");
        Edge.run(PAID + "given 0 = 1/1; given 1 = 3/1");
        Edge.run("loss 600; " + Edge.SIX + "pay 5 7; given 0 = 1/3; given 1 = 2/3; given 2 = 1/1; given 3 = 4/3; given 4 = 5/3");
        Edge.run("loss 1000000; wrong 1; wrong 100; pay 0 1000000; given 0 = 100000000/101");
        Edge.promise(29, "LOST: OUTSIDE: k is below 0,");
        for (String k : new String[] {"-1", "-2", "-9", "-2147483647", "least"}) {
            for (int which = -1; which <= 2; which++) {
                Edge.refused(PAID, "given " + k + " " + which, "LOST");
                Edge.refused("", "given " + k + " " + which, "LOST");
            }
        }
        Edge.promise(29, "which;");
        for (int k = 0; k < 4; k++) {
            noWhich("given " + k);
        }
        Edge.promise(29, "NONE: there are fewer.");
        for (int which = 0; which < 2; which++) {
            for (int k : new int[] {2, 3, 4, 5, 6, 7, 32, Integer.MAX_VALUE}) {
                Edge.refused(PAID, "given " + k + " " + which, "LOST");
            }
            for (int k : new int[] {5, 6, 7, Integer.MAX_VALUE}) {
                Edge.refused("loss 600; " + Edge.SIX + "pay 5 21", "given " + k + " " + which, "LOST");
            }
            Edge.refused("", "given 0 " + which, "LOST");
        }
        Edge.run(PAID + "given 1 = 3/1; refund 0; refund 1; refund 3; given 0 = LOST; given 1 = LOST");
    }

    private static void many() {
        Edge.promise(30, "How many: 0 WRONGDOERS in the case, 1 UNITS, 2 SETTLED ones, 3 OPEN ones that are BROKE, 4 BLAME, 5 all that was PAID.");
        Edge.run("many 0 = 0; many 1 = 0; many 2 = 0; many 3 = 0; many 4 = 0; many 5 = 0");
        Edge.run("claimant 100; wrong 100; wrong 100; wrong 100; wrong 100; wrong 100; wrong 100; many 0 = 6; many 1 = 6; many 2 = 0; "
                + "many 3 = 0; many 4 = 700; settle 0 0; settle 1 0; settle 2 0; settle 3 0; settle 4 0; many 2 = 5; settle 5 0; many 2 = 6; "
                + "broke 0 1; broke 5 1; many 3 = 0; reopen 5; many 3 = 1; many 2 = 5; many 5 = 0");
        // pairs count as one, by whichever of them they were settled or became broke
        Edge.run(Edge.SIX + "pair 5 0; pair 1 4; many 0 = 6; many 1 = 4; settle 5 3; many 2 = 1; broke 4 1; many 3 = 0; broke 1 1; many 3 = 1; "
                + "broke 2 1; broke 3 1; many 3 = 3; broke 5 1; broke 0 1; many 3 = 3; reopen 0; many 3 = 4; many 2 = 0");
        Edge.run("loss 1000000; wrong 1; wrong 1; pay 0 999999; pay 1 1; many 5 = 1000000; loss 0; many 5 = 1000000; refund 0; many 5 = 1; "
                + "leave 1; many 5 = 0");
        Edge.promise(30, "OUTSIDE.");
        Edge.outside("", "many #", 0, 5, "OUTSIDE");
        Edge.outside(PAID, "many #", 0, 5, "OUTSIDE");
    }
}
