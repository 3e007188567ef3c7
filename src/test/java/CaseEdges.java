/** The sentences of promises 1 to 13. */
final class CaseEdges {
    private CaseEdges() { }

    static void run() {
        newObject();
        loss();
        claimant();
        wrong();
        leave();
        weight();
        broke();
        pair();
        pairStates();
        part();
        settle();
        settleStates();
        reopen();
        setting();
        ofWrong();
    }

    private static void newObject() {
        Edge.promise(1, "Nobody is in the case but the CLAIMANT.");
        for (int w = 0; w < 6; w++) {
            Edge.run("ofWrong " + w + " 0 = UNKNOWN; leave " + w + " = UNKNOWN; due " + w + " = LOST");
        }
        Edge.run("many 0 = 0; many 1 = 0; many 2 = 0; many 3 = 0; many 4 = 0; many 5 = 0; owe = 0; transfers = 0; bestManner = 0; "
                + "amount 0 = 0/1; amount 1 = 0/1; amount 2 = 0/1; amount 3 = 0/1; amount 4 = 0/1; gets 0 0 = 0/1; "
                + "loss 5 = 0; claimant 5 = 0; many 0 = 0; many 4 = 5; setting 0 1 = 0; setting 1 1 = 0; setting 2 1 = 100");
        // what one object holds is nothing to another
        Edge.run("loss 9; claimant 8; setting 2 7; wrong 6; pay 0 1");
        Edge.run("loss 0 = 0; claimant 0 = 0; setting 2 100 = 100; many 0 = 0; many 5 = 0");
    }

    private static void loss() {
        Edge.promise(2, "LOSS becomes v: what it was.");
        Edge.run("wrong 1; loss 1000000 = 0; amount 0 = 1000000/1; loss 1000000 = 1000000; loss 0 = 1000000; amount 0 = 0/1; "
                + "loss 1 = 0; amount 0 = 1/1; loss 0 = 1");
        Edge.promise(2, "OUTSIDE.");
        Edge.outside("", "loss #", 0, 1000000, "OUTSIDE");
        Edge.outside("loss 1000000; wrong 3; pay 0 7", "loss #", 0, 1000000, "OUTSIDE");
    }

    private static void claimant() {
        Edge.promise(3, "The CLAIMANT's WEIGHT becomes v: what it was.");
        Edge.run("loss 200; wrong 100; claimant 100 = 0; amount 0 = 100/1; claimant 100 = 100; claimant 0 = 100; amount 0 = 200/1; "
                + "claimant 1 = 0; claimant 0 = 1");
        Edge.promise(3, "OUTSIDE.");
        Edge.outside("", "claimant #", 0, 100, "OUTSIDE");
        Edge.outside("loss 9; claimant 100; wrong 3", "claimant #", 0, 100, "OUTSIDE");
    }

    private static void wrong() {
        Edge.promise(4, "A WRONGDOER comes into the case (not BROKE, in no PAIR, its UNIT OPEN, nothing PAID),");
        String fresh = "ofWrong 0 0 = 5; ofWrong 0 1 = 0; ofWrong 0 2 = NONE; ofWrong 0 3 = 0; ofWrong 0 4 = NONE; ofWrong 0 5 = 0";
        Edge.run("wrong 5 = 0; " + fresh);
        // nothing of the one that had the number before clings to it
        Edge.run("loss 90; wrong 7; wrong 8; pay 0 9; broke 0 1; pair 0 1; leave 0; wrong 5 = 0; " + fresh + "; ofWrong 1 2 = NONE");
        Edge.run("loss 90; wrong 7; wrong 8; pair 0 1; settle 0 50; leave 0; wrong 5 = 0; " + fresh + "; reopen 0 = STATE; credit 0 = 0/1");
        Edge.run("loss 90; wrong 7; wrong 8; settle 0 50; leave 0; wrong 5 = 0; " + fresh + "; amount 1 = 0/1; gets 0 0 = 90/1");
        Edge.promise(4, "the least number that is not in it: its number.");
        Edge.run("wrong 0 = 0; wrong 0 = 1; wrong 0 = 2; wrong 0 = 3; wrong 0 = 4; wrong 0 = 5; leave 5 = 5; wrong 0 = 5; "
                + "leave 0 = 5; wrong 0 = 0; leave 4; leave 1; leave 3; wrong 0 = 1; wrong 0 = 3; wrong 0 = 4; wrong 0 = FULL");
        for (int w = 0; w < 6; w++) {
            Edge.run(Edge.SIX + "leave " + w + " = 5; wrong 9 = " + w + "; wrong 9 = FULL");
        }
        Edge.promise(4, "OUTSIDE: the WEIGHT;");
        Edge.run("wrong 0 = 0; ofWrong 0 0 = 0; wrong 100 = 1; ofWrong 1 0 = 100");
        Edge.outside("", "wrong #", 0, 100, "OUTSIDE");
        Edge.outside("wrong 1; wrong 2; wrong 3; wrong 4; wrong 5", "wrong #", 0, 100, "OUTSIDE");
        Edge.outside(Edge.SIX, "wrong #", 0, 100, "OUTSIDE");
        Edge.promise(4, "FULL.");
        Edge.refused(Edge.SIX, "wrong 0", "FULL");
        Edge.refused(Edge.SIX, "wrong 100", "FULL");
        Edge.refused("loss 5; " + Edge.SIX + "pair 0 1; pair 2 3; pair 4 5; settle 0 5; broke 3 1; pay 5 1", "wrong 50", "FULL");
    }

    private static void leave() {
        Edge.promise(5, "A WRONGDOER leaves the case, with all it has");
        Edge.run("loss 600; claimant 10; wrong 20; wrong 30; many 4 = 60; pay 0 100; many 5 = 100; leave 0 = 1; many 0 = 1; "
                + "many 1 = 1; many 4 = 40; many 5 = 0; fair 1 = 0/1; over 1 = 0/1; transfers = 0; due 0 = LOST; owe = 2");
        Edge.run("loss 600; wrong 20; wrong 30; settle 0 100; many 2 = 1; amount 1 = 100/1; leave 0 = 1; many 2 = 0; amount 1 = 0/1; "
                + "gets 0 0 = 600/1; broke 1 1; many 3 = 1; leave 1 = 0; many 3 = 0; amount 0 = 0/1; many 1 = 0");
        Edge.promise(5, "(the other one of a PAIR is in none then, its UNIT OPEN):");
        for (int gone = 0; gone < 2; gone++) {
            int stays = 1 - gone;
            String of = "ofWrong " + stays;
            Edge.run("wrong 20; wrong 30; pair 0 1; settle 0 7; leave " + gone + " = 1; " + of + " 2 = NONE; " + of + " 3 = 0; "
                    + of + " 4 = NONE; reopen " + stays + " = STATE; part " + stays + " = STATE; many 1 = 1; many 2 = 0; "
                    + "amount 1 = 0/1; wrong 5 = " + gone + "; pair 0 1 = 1");
            // the other one keeps what is its own
            Edge.run("loss 600; wrong 30; wrong 30; pair 0 1; pay " + stays + " 9; broke " + stays + " 1; leave " + gone + " = 1; "
                    + of + " 0 = 30; " + of + " 1 = 1; " + of + " 2 = NONE; " + of + " 5 = 9; many 3 = 1; many 5 = 9");
        }
        Edge.run(Edge.SIX + "pair 0 1; pair 2 3; settle 2 9; settle 0 8; leave 0; ofWrong 2 2 = 3; ofWrong 3 4 = 9; many 2 = 1");
        Edge.promise(5, "how many are left.");
        Edge.run(Edge.SIX + "leave 3 = 5; leave 0 = 4; leave 5 = 3; leave 1 = 2; leave 4 = 1; leave 2 = 0; wrong 1 = 0; leave 0 = 0");
        Edge.promise(5, "UNKNOWN.");
        Edge.unknown("leave #", "UNKNOWN");
    }

    private static void weight() {
        Edge.promise(6, "WEIGHT of a WRONGDOER becomes v: what it was.");
        Edge.run("loss 600; wrong 0; wrong 100; weight 0 100 = 0; due 0 = 300/1; weight 0 100 = 100; weight 0 0 = 100; due 0 = 0/1; "
                + "weight 0 1 = 0; weight 0 0 = 1; weight 1 0 = 100; many 4 = 0; amount 0 = 0/1");
        // of one that is broke, in a pair, settled
        Edge.run("wrong 5; wrong 6; broke 0 1; weight 0 7 = 5; pair 0 1; weight 0 8 = 7; settle 0 1; weight 0 9 = 8; many 4 = 15");
        Edge.promise(6, "UNKNOWN;");
        Edge.unknown("weight # 5", "UNKNOWN");
        Edge.unknown("weight # 101", "UNKNOWN");
        Edge.promise(6, "OUTSIDE.");
        Edge.outside("wrong 0; wrong 50", "weight 1 #", 0, 100, "OUTSIDE");
        Edge.outside(Edge.SIX, "weight 5 #", 0, 100, "OUTSIDE");
    }

    private static void broke() {
        Edge.promise(7, "A WRONGDOER is BROKE (true), or not: 1;");
        Edge.run(Edge.SIX + "broke 0 1 = 1; ofWrong 0 1 = 1; broke 5 1 = 1; ofWrong 5 1 = 1; ofWrong 4 1 = 0; many 3 = 2; "
                + "broke 0 0 = 1; ofWrong 0 1 = 0; many 3 = 1");
        // one that has paid, in a pair, settled
        Edge.run("loss 60; wrong 1; wrong 1; pay 0 5; broke 0 1 = 1; ofWrong 0 5 = 5; pair 0 1; broke 1 1 = 1; refund 0; settle 0 5; "
                + "broke 0 0 = 1; broke 0 1 = 1; ofWrong 0 1 = 1");
        Edge.promise(7, "0: it was so.");
        Edge.run("wrong 1; broke 0 0 = 0; ofWrong 0 1 = 0; broke 0 1 = 1; broke 0 1 = 0; ofWrong 0 1 = 1; broke 0 0 = 1; broke 0 0 = 0");
        Edge.refused("loss 9; wrong 1; wrong 2", "broke 0 0", "0");
        Edge.refused("loss 9; wrong 1; wrong 2; broke 0 1", "broke 0 1", "0");
        Edge.promise(7, "UNKNOWN.");
        Edge.unknown("broke # 1", "UNKNOWN");
        Edge.unknown("broke # 0", "UNKNOWN");
    }

    private static void pair() {
        Edge.promise(8, "Two are a PAIR: 1.");
        for (int v = 0; v < 6; v++) {
            for (int w = 0; w < 6; w++) {
                if (v != w) {
                    Edge.run(Edge.SIX + "pair " + v + " " + w + " = 1; ofWrong " + v + " 2 = " + w + "; ofWrong " + w + " 2 = " + v
                            + "; many 1 = 5");
                }
            }
        }
        // broke ones, and such as have paid, too
        Edge.run("loss 60; wrong 1; wrong 1; pay 0 5; pay 1 6; broke 0 1; pair 0 1 = 1; ofWrong 0 5 = 5; ofWrong 1 5 = 6; many 5 = 11");
        Edge.promise(8, "UNKNOWN: both");
        Edge.unknown("pair # #", "UNKNOWN");
        Edge.unknown("pair # 7", "UNKNOWN");
        for (int w : Edge.NEVER) {
            Edge.refused(Edge.SIX, "pair 0 " + w, "UNKNOWN");
            Edge.refused(Edge.SIX, "pair " + w + " 5", "UNKNOWN");
        }
        for (int w = 1; w < 6; w++) {
            Edge.refused("wrong 1", "pair 0 " + w, "UNKNOWN");
            Edge.refused("wrong 1", "pair " + w + " 0", "UNKNOWN");
            Edge.refused(Edge.SIX + "leave " + w, "pair 0 " + w, "UNKNOWN");
            Edge.refused(Edge.SIX + "leave " + w, "pair " + w + " 0", "UNKNOWN");
        }
        Edge.promise(8, "(they are one: so, too);");
        for (int w = 0; w < 6; w++) {
            Edge.refused(Edge.SIX, "pair " + w + " " + w, "UNKNOWN");
        }
    }

    private static void pairStates() {
        Edge.promise(8, "STATE: one is in a PAIR,");
        String paired = "wrong 1; wrong 2; wrong 3; wrong 4; pair 0 1";
        for (String call : new String[] {"pair 0 1", "pair 1 0", "pair 0 2", "pair 2 0", "pair 1 2", "pair 2 1"}) {
            Edge.refused(paired, call, "STATE");
        }
        Edge.refused(paired + "; pair 2 3", "pair 1 2", "STATE");
        Edge.run(paired + "; part 1; pair 1 2 = 1; leave 2; pair 0 1 = 1");
        Edge.promise(8, "a UNIT is SETTLED.");
        String settled = "wrong 1; wrong 2; wrong 3; settle 0 0";
        Edge.refused(settled, "pair 0 1", "STATE");
        Edge.refused(settled, "pair 1 0", "STATE");
        Edge.refused(settled + "; settle 1 5", "pair 0 1", "STATE");
        Edge.refused(settled + "; pair 1 2", "pair 0 1", "STATE");
        Edge.refused(settled + "; pair 1 2", "pair 2 0", "STATE");
        Edge.run(settled + "; pair 1 2 = 1");
        Edge.run(settled + "; reopen 0 = 0; pair 0 1 = 1");
    }

    private static void part() {
        Edge.promise(9, "A PAIR is parted: 1.");
        for (int w = 0; w < 2; w++) {
            Edge.run("loss 60; wrong 1; wrong 2; broke 0 1; pay 1 7; pair 0 1; part " + w + " = 1; ofWrong 0 2 = NONE; ofWrong 1 2 = NONE; "
                    + "many 1 = 2; ofWrong 0 1 = 1; ofWrong 1 5 = 7; ofWrong 0 0 = 1; ofWrong 1 0 = 2; pair 1 0 = 1");
        }
        Edge.run(Edge.SIX + "pair 0 1; pair 2 3; part 3 = 1; ofWrong 0 2 = 1; ofWrong 1 2 = 0; many 1 = 5");
        Edge.promise(9, "UNKNOWN;");
        Edge.unknown("part #", "UNKNOWN");
        Edge.promise(9, "STATE: it is in none,");
        Edge.refused("wrong 1", "part 0", "STATE");
        Edge.refused("wrong 1; wrong 2; wrong 3; pair 0 1", "part 2", "STATE");
        Edge.refused("wrong 1; wrong 2; pair 0 1; part 0", "part 0", "STATE");
        Edge.refused("wrong 1; wrong 2; pair 0 1; part 0", "part 1", "STATE");
        Edge.refused("wrong 1; wrong 2; pair 0 1; leave 0", "part 1", "STATE");
        Edge.refused("wrong 1; settle 0 5", "part 0", "STATE");
        Edge.promise(9, "the UNIT is SETTLED.");
        for (int w = 0; w < 2; w++) {
            Edge.refused("wrong 1; wrong 2; pair 0 1; settle 0 0", "part " + w, "STATE");
            Edge.refused("wrong 1; wrong 2; pair 0 1; settle 1 1000000", "part " + w, "STATE");
            Edge.run("wrong 1; wrong 2; pair 0 1; settle 0 5; reopen 1; part " + w + " = 1");
        }
    }

    private static void settle() {
        Edge.promise(10, "The UNIT of a WRONGDOER is SETTLED for v (0 .. 1000000): 1.");
        for (int v : new int[] {0, 1, 999999, 1000000}) {
            Edge.run("wrong 0; settle 0 " + v + " = 1; ofWrong 0 3 = 1; ofWrong 0 4 = " + v + "; amount 1 = " + v + "/1; many 2 = 1");
            Edge.run("wrong 1; wrong 2; pair 0 1; settle 1 " + v + " = 1; ofWrong 0 3 = 1; ofWrong 1 3 = 1; ofWrong 0 4 = " + v
                    + "; ofWrong 1 4 = " + v + "; many 2 = 1; credit 0 = " + v + "/1; credit 1 = " + v + "/1; amount 1 = " + v + "/1");
        }
        // a broke one, too; another unit stays open
        Edge.run("wrong 1; wrong 2; broke 0 1; settle 0 5 = 1; ofWrong 1 3 = 0; ofWrong 1 4 = NONE");
        Edge.promise(10, "UNKNOWN;");
        Edge.unknown("settle # 5", "UNKNOWN");
        Edge.unknown("settle # -1", "UNKNOWN");
        Edge.promise(10, "OUTSIDE;");
        Edge.outside("wrong 1", "settle 0 #", 0, 1000000, "OUTSIDE");
        Edge.outside("wrong 1; wrong 2; pair 0 1; settle 0 5", "settle 1 #", 0, 1000000, "OUTSIDE");
        Edge.outside("loss 5; wrong 1; pay 0 1", "settle 0 #", 0, 1000000, "OUTSIDE");
    }

    private static void settleStates() {
        Edge.promise(10, "STATE: it is SETTLED,");
        Edge.refused("wrong 1; settle 0 0", "settle 0 5", "STATE");
        Edge.refused("wrong 1; settle 0 5", "settle 0 5", "STATE");
        Edge.refused("wrong 1; settle 0 1000000", "settle 0 0", "STATE");
        Edge.refused("wrong 1; wrong 2; pair 0 1; settle 0 5", "settle 0 6", "STATE");
        Edge.refused("wrong 1; wrong 2; pair 0 1; settle 0 5", "settle 1 6", "STATE");
        Edge.run("wrong 1; wrong 2; settle 0 5; settle 1 5 = 1; reopen 0; settle 0 6 = 1");
        Edge.promise(10, "one of it has PAID something.");
        String paid = "loss 9; wrong 1; wrong 2; wrong 3; pay 0 1";
        Edge.refused(paid, "settle 0 5", "STATE");
        Edge.refused(paid + "; pair 0 1", "settle 0 5", "STATE");
        Edge.refused(paid + "; pair 0 1", "settle 1 5", "STATE");
        Edge.refused(paid + "; pair 0 1; broke 0 1", "settle 1 5", "STATE");
        Edge.refused(paid + "; broke 0 1", "settle 0 0", "STATE");
        Edge.run(paid + "; settle 1 5 = 1; refund 0 = 1; settle 0 5 = 1");
        Edge.run(paid + "; pair 0 1; leave 0; settle 1 5 = 1");
        Edge.run(paid + "; pair 0 1; part 0; settle 1 5 = 1; settle 0 5 = STATE");
    }

    private static void reopen() {
        Edge.promise(11, "The UNIT of a WRONGDOER is OPEN again: what it was SETTLED for.");
        for (int v : new int[] {0, 1, 1000000}) {
            Edge.run("wrong 1; settle 0 " + v + "; reopen 0 = " + v + "; ofWrong 0 3 = 0; ofWrong 0 4 = NONE; amount 1 = 0/1; many 2 = 0; "
                    + "settle 0 7 = 1; reopen 0 = 7");
            for (int w = 0; w < 2; w++) {
                Edge.run("wrong 1; wrong 2; wrong 3; pair 0 1; settle 2 9; settle 0 " + v + "; reopen " + w + " = " + v
                        + "; ofWrong 0 3 = 0; ofWrong 1 3 = 0; ofWrong 0 4 = NONE; ofWrong 1 4 = NONE; ofWrong 0 2 = 1; "
                        + "ofWrong 2 4 = 9; many 2 = 1");
            }
        }
        Edge.promise(11, "UNKNOWN;");
        Edge.unknown("reopen #", "UNKNOWN");
        Edge.promise(11, "STATE: it is OPEN.");
        Edge.refused("wrong 1", "reopen 0", "STATE");
        Edge.refused("wrong 1; wrong 2; settle 0 0", "reopen 1", "STATE");
        Edge.refused("wrong 1; settle 0 0; reopen 0", "reopen 0", "STATE");
        Edge.refused("wrong 1; wrong 2; pair 0 1; settle 0 5; reopen 0", "reopen 1", "STATE");
        Edge.refused("wrong 1; wrong 2; pair 0 1; settle 0 5; leave 0", "reopen 1", "STATE");
    }

    private static void setting() {
        Edge.promise(12, "A SETTING becomes v: what it was.");
        int[] most = {2, 2, 100};
        int[] first = {0, 0, 100};
        for (int k = 0; k < 3; k++) {
            String set = "setting " + k;
            Edge.run(set + " 0 = " + first[k] + "; " + set + " " + most[k] + " = 0; " + set + " 1 = " + most[k] + "; " + set + " 1 = 1; "
                    + set + " " + most[k] + " = 1; " + set + " 0 = " + most[k]);
        }
        Edge.run("setting 0 1; setting 1 2; setting 2 3; setting 0 0 = 1; setting 1 0 = 2; setting 2 0 = 3");
        Edge.promise(12, "OUTSIDE.");
        for (int k = 0; k < 3; k++) {
            Edge.outside("setting 0 1; setting 1 1; setting 2 50", "setting " + k + " #", 0, most[k], "OUTSIDE");
        }
        for (int v : new int[] {0, 1, 100, 101, -1}) {
            Edge.outside("setting 0 1; setting 1 1; setting 2 50", "setting # " + v, 0, 2, "OUTSIDE");
        }
    }

    private static void ofWrong() {
        Edge.promise(13, "Of a WRONGDOER: 0 WEIGHT, 1 whether BROKE (1, 0),");
        Edge.run("wrong 0; wrong 100; ofWrong 0 0 = 0; ofWrong 1 0 = 100; ofWrong 0 1 = 0; broke 0 1; ofWrong 0 1 = 1; ofWrong 1 1 = 0; "
                + "pair 0 1; ofWrong 0 0 = 0; ofWrong 1 0 = 100; ofWrong 0 1 = 1; ofWrong 1 1 = 0");
        Edge.promise(13, "2 the other one of its PAIR (NONE),");
        Edge.run(Edge.SIX + "ofWrong 0 2 = NONE; ofWrong 5 2 = NONE; pair 5 0; ofWrong 0 2 = 5; ofWrong 5 2 = 0; ofWrong 1 2 = NONE; "
                + "settle 0 5; ofWrong 5 2 = 0; reopen 0; part 5; ofWrong 0 2 = NONE; ofWrong 5 2 = NONE");
        Edge.promise(13, "3 whether its UNIT is SETTLED (1, 0), 4 for how much (NONE: it is OPEN),");
        Edge.run("wrong 1; wrong 2; ofWrong 0 3 = 0; ofWrong 0 4 = NONE; settle 0 0; ofWrong 0 3 = 1; ofWrong 0 4 = 0; ofWrong 1 3 = 0; "
                + "ofWrong 1 4 = NONE; settle 1 1000000; ofWrong 1 4 = 1000000; reopen 0; ofWrong 0 3 = 0; ofWrong 0 4 = NONE");
        Edge.run("wrong 1; wrong 2; pair 0 1; settle 0 3; ofWrong 1 3 = 1; ofWrong 1 4 = 3");
        Edge.promise(13, "5 what it PAID.");
        Edge.run("loss 1000000; wrong 1; wrong 0; ofWrong 0 5 = 0; pay 0 999999; ofWrong 0 5 = 999999; pay 0 1; ofWrong 0 5 = 1000000; "
                + "ofWrong 1 5 = 0; pair 0 1; ofWrong 1 5 = 0; ofWrong 0 5 = 1000000; broke 0 1; ofWrong 0 5 = 1000000; refund 0; "
                + "ofWrong 0 5 = 0");
        Edge.promise(13, "UNKNOWN;");
        for (int what = -1; what <= 6; what++) {
            Edge.unknown("ofWrong # " + what, "UNKNOWN");
        }
        Edge.promise(13, "OUTSIDE.");
        Edge.outside(Edge.SIX, "ofWrong 0 #", 0, 5, "OUTSIDE");
        Edge.outside("loss 9; wrong 3; wrong 4; pair 0 1; settle 0 5", "ofWrong 1 #", 0, 5, "OUTSIDE");
    }
}
