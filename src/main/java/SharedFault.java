/** A court that shares out fault. The numbered promises it keeps stand in ../shared/DOC.md. */
public final class SharedFault {
    public static final int UNKNOWN = -1, OUTSIDE = -2, STATE = -3, FULL = -4, NONE = -9;
    public static final long LOST = Long.MIN_VALUE;

    private static final int WRONGDOERS = 6;
    private static final int MOST_WEIGHT = 100;
    private static final int MOST_AMOUNT = 1000000;
    private static final int MANNER = 0;
    private static final int SPREAD = 1;
    private static final int BAR = 2;
    private static final int[] SETTING_MOST = {2, 2, 100};

    private int lossNow;
    private int claimantWeight;
    private final int[] settings;

    // Sets of wrongdoers, bit k for number k. Both of a pair are in settledSet, or neither is.
    private int inCase;
    private int brokeSet;
    private int settledSet;

    private final int[] weights;
    // For each wrongdoer the set of those that make up its unit, itself among them.
    private final int[] units;
    // Both of a pair hold what their unit settled for.
    private final int[] settledFor;
    private final int[] paid;
    private final Flow flow;

    public SharedFault() {
        settings = new int[] {0, 0, 100};
        weights = new int[WRONGDOERS];
        units = new int[WRONGDOERS];
        settledFor = new int[WRONGDOERS];
        paid = new int[WRONGDOERS];
        flow = new Flow();
    }

    // ---- 1 the case

    public int loss(int v) {
        if (isOutside(v, 0, MOST_AMOUNT)) {
            return OUTSIDE;
        }
        int was = lossNow;
        lossNow = v;
        return was;
    }

    public int claimant(int v) {
        if (isOutside(v, 0, MOST_WEIGHT)) {
            return OUTSIDE;
        }
        int was = claimantWeight;
        claimantWeight = v;
        return was;
    }

    public int wrong(int weight) {
        if (isOutside(weight, 0, MOST_WEIGHT)) {
            return OUTSIDE;
        }
        for (int w = 0; w < WRONGDOERS; w++) {
            if (!has(inCase, w)) {
                inCase |= bit(w);
                weights[w] = weight;
                units[w] = bit(w);
                return w;
            }
        }
        return FULL;
    }

    public int leave(int w) {
        if (!isKnown(w)) {
            return UNKNOWN;
        }
        openUnit(w);
        partUnit(w);
        inCase &= ~bit(w);
        brokeSet &= ~bit(w);
        weights[w] = 0;
        units[w] = 0;
        paid[w] = 0;
        return Integer.bitCount(inCase);
    }

    public int weight(int w, int v) {
        if (!isKnown(w)) {
            return UNKNOWN;
        }
        if (isOutside(v, 0, MOST_WEIGHT)) {
            return OUTSIDE;
        }
        int was = weights[w];
        weights[w] = v;
        return was;
    }

    public int broke(int w, boolean is) {
        if (!isKnown(w)) {
            return UNKNOWN;
        }
        if (has(brokeSet, w) == is) {
            return 0;
        }
        brokeSet ^= bit(w);
        return 1;
    }

    public int pair(int v, int w) {
        if (!isKnown(v) || !isKnown(w) || v == w) {
            return UNKNOWN;
        }
        if (isPaired(v) || isPaired(w) || has(settledSet, v) || has(settledSet, w)) {
            return STATE;
        }
        units[v] = bit(v) | bit(w);
        units[w] = bit(v) | bit(w);
        return 1;
    }

    public int part(int w) {
        if (!isKnown(w)) {
            return UNKNOWN;
        }
        if (!isPaired(w) || has(settledSet, w)) {
            return STATE;
        }
        partUnit(w);
        return 1;
    }

    public int settle(int w, int v) {
        if (!isKnown(w)) {
            return UNKNOWN;
        }
        if (isOutside(v, 0, MOST_AMOUNT)) {
            return OUTSIDE;
        }
        if (has(settledSet, w) || sumOver(units[w], paid) > 0) {
            return STATE;
        }
        settledSet |= units[w];
        fillUnit(w, v);
        return 1;
    }

    public int reopen(int w) {
        if (!isKnown(w)) {
            return UNKNOWN;
        }
        if (!has(settledSet, w)) {
            return STATE;
        }
        int was = settledFor[w];
        openUnit(w);
        return was;
    }

    public int setting(int k, int v) {
        if (isOutside(k, 0, SETTING_MOST.length - 1) || isOutside(v, 0, SETTING_MOST[k])) {
            return OUTSIDE;
        }
        int was = settings[k];
        settings[k] = v;
        return was;
    }

    public int ofWrong(int w, int what) {
        if (!isKnown(w)) {
            return UNKNOWN;
        }
        switch (what) {
            case 0:
                return weights[w];
            case 1:
                return has(brokeSet, w) ? 1 : 0;
            case 2:
                return firstOf(units[w] & ~bit(w));
            case 3:
                return has(settledSet, w) ? 1 : 0;
            case 4:
                return has(settledSet, w) ? settledFor[w] : NONE;
            case 5:
                return paid[w];
            default:
                return OUTSIDE;
        }
    }

    // ---- 2 what is owed

    public long amount(int what, int which) {
        if (isOutside(which, 0, 1)) {
            return LOST;
        }
        switch (what) {
            case 0:
                return owedNow().entitled.told(which);
            case 1:
                return owedNow().credits.told(which);
            case 2:
                return owedNow().rest.told(which);
            case 3:
                return owedNow().missed.told(which);
            case 4:
                return owedNow().dues.told(which);
            default:
                return LOST;
        }
    }

    public long credit(int w, int which) {
        if (!isKnown(w) || isOutside(which, 0, 1)) {
            return LOST;
        }
        int down = blameDown();
        long up = has(settledSet, w) ? creditUp(w, settings[MANNER], down) : 0;
        return Share.of(up, down).told(which);
    }

    public long unitDue(int w, int which) {
        if (!isKnown(w) || isOutside(which, 0, 1)) {
            return LOST;
        }
        return owedNow().perWeight.times(unitBears(w, settledSet)).told(which);
    }

    public long due(int w, int which) {
        if (!isKnown(w) || isOutside(which, 0, 1)) {
            return LOST;
        }
        return owedNow().perWeight.times(bears(w)).told(which);
    }

    public long gets(int manner, int spread, int which) {
        if (isOutside(manner, 0, SETTING_MOST[MANNER]) || isOutside(spread, 0, SETTING_MOST[SPREAD])
                || isOutside(which, 0, 1)) {
            return LOST;
        }
        return gotBy(manner, spread).told(which);
    }

    public int bestManner() {
        int best = 0;
        Share most = gotBy(0, settings[SPREAD]);
        for (int manner = 1; manner <= SETTING_MOST[MANNER]; manner++) {
            Share other = gotBy(manner, settings[SPREAD]);
            if (other.minus(most).up > 0) {
                best = manner;
                most = other;
            }
        }
        return best;
    }

    public long saves(int w, int v, int which) {
        if (!isKnown(w) || isOutside(v, 0, MOST_AMOUNT) || isOutside(which, 0, 1)) {
            return LOST;
        }
        int settled = settledSet & ~units[w];
        Owed open = owedIf(settings[MANNER], settings[SPREAD], settled, brokeSet);
        return open.perWeight.times(unitBears(w, settled)).plusWhole(-v).told(which);
    }

    public long misses(int w, int which) {
        if (!isKnown(w) || isOutside(which, 0, 1)) {
            return LOST;
        }
        Owed with = owedIf(settings[MANNER], settings[SPREAD], settledSet, brokeSet | bit(w));
        Owed without = owedIf(settings[MANNER], settings[SPREAD], settledSet, brokeSet & ~bit(w));
        return with.missed.minus(without.missed).told(which);
    }

    public int owe() {
        if (owedNow().perWeight.up == 0) {
            return 0;
        }
        int set = 0;
        for (int w = 0; w < WRONGDOERS; w++) {
            if (isKnown(w) && bears(w) > 0) {
                set |= bit(w);
            }
        }
        return set;
    }

    // ---- 3 what was paid

    public int pay(int w, int v) {
        if (!isKnown(w)) {
            return UNKNOWN;
        }
        if (isOutside(v, 1, MOST_AMOUNT)) {
            return OUTSIDE;
        }
        if (has(brokeSet, w) || has(settledSet, w)) {
            return STATE;
        }
        if (owedNow().dues.plusWhole(-(long) allPaid() - v).up < 0) {
            return STATE;
        }
        paid[w] += v;
        return paid[w];
    }

    public int refund(int w) {
        if (!isKnown(w)) {
            return UNKNOWN;
        }
        if (paid[w] == 0) {
            return STATE;
        }
        int was = paid[w];
        paid[w] = 0;
        return was;
    }

    public long fair(int w, int which) {
        if (!isKnown(w) || isOutside(which, 0, 1)) {
            return LOST;
        }
        Owed owed = owedNow();
        return Share.of(fairUp(w, owed), owed.fairDown).told(which);
    }

    public long over(int w, int which) {
        if (!isKnown(w) || isOutside(which, 0, 1)) {
            return LOST;
        }
        Owed owed = owedNow();
        return Share.of(overUp(w, owed), owed.fairDown).told(which);
    }

    public int transfers() {
        evenOut(owedNow());
        return flow.count;
    }

    public int transfer(int k, int what) {
        if (k < 0 || isOutside(what, 0, 1)) {
            return OUTSIDE;
        }
        evenOut(owedNow());
        if (!flow.holds(k)) {
            return NONE;
        }
        return what == 0 ? flow.givers[k] : flow.takers[k];
    }

    public long given(int k, int which) {
        if (k < 0 || isOutside(which, 0, 1)) {
            return LOST;
        }
        Owed owed = owedNow();
        evenOut(owed);
        if (!flow.holds(k)) {
            return LOST;
        }
        return Share.of(flow.gifts[k], owed.fairDown).told(which);
    }

    public int many(int what) {
        switch (what) {
            case 0:
                return Integer.bitCount(inCase);
            case 1:
                return Integer.bitCount(unitHeads());
            case 2:
                return Integer.bitCount(unitHeads() & settledSet);
            case 3:
                return Integer.bitCount(unitHeads() & openBroke(settledSet, brokeSet));
            case 4:
                return blame();
            case 5:
                return allPaid();
            default:
                return OUTSIDE;
        }
    }

    // ---- sets and units

    private static boolean isOutside(int v, int least, int most) {
        return v < least || v > most;
    }

    private static int bit(int w) {
        return 1 << w;
    }

    private static boolean has(int set, int w) {
        return (set >> w & 1) != 0;
    }

    private static int firstOf(int set) {
        for (int w = 0; w < WRONGDOERS; w++) {
            if (has(set, w)) {
                return w;
            }
        }
        return NONE;
    }

    private static int sumOver(int set, int[] row) {
        int sum = 0;
        for (int w = 0; w < row.length; w++) {
            if (has(set, w)) {
                sum += row[w];
            }
        }
        return sum;
    }

    private boolean isKnown(int w) {
        return w >= 0 && w < WRONGDOERS && has(inCase, w);
    }

    private boolean isPaired(int w) {
        return units[w] != bit(w);
    }

    private void fillUnit(int w, int amount) {
        int unit = units[w];
        for (int k = 0; k < WRONGDOERS; k++) {
            if (has(unit, k)) {
                settledFor[k] = amount;
            }
        }
    }

    private void openUnit(int w) {
        settledSet &= ~units[w];
        fillUnit(w, 0);
    }

    private void partUnit(int w) {
        int unit = units[w];
        for (int k = 0; k < WRONGDOERS; k++) {
            if (has(unit, k)) {
                units[k] = bit(k);
            }
        }
    }

    /** One wrongdoer of each unit, its least, so that no pair is counted twice. */
    private int unitHeads() {
        int heads = 0;
        for (int w = 0; w < WRONGDOERS; w++) {
            if (has(inCase, w)) {
                heads |= units[w] & -units[w];
            }
        }
        return heads;
    }

    private int openBroke(int settled, int broke) {
        int set = 0;
        for (int w = 0; w < WRONGDOERS; w++) {
            if (has(inCase & ~settled, w) && (units[w] & ~broke) == 0) {
                set |= bit(w);
            }
        }
        return set;
    }

    // ---- what is owed, inside

    private int blame() {
        return claimantWeight + sumOver(inCase, weights);
    }

    /** Without blame all weights are 0, so nothing by weights comes to anyone and 1 serves as well. */
    private int blameDown() {
        return Math.max(blame(), 1);
    }

    /** ENTITLED, in parts of blameDown. */
    private long entitledUp() {
        int blame = blame();
        if (100 * claimantWeight > settings[BAR] * blame) {
            return 0;
        }
        return (long) lossNow * (blame - claimantWeight);
    }

    /** CREDIT of the unit of w, which has settled, in parts of down, which is blameDown. */
    private long creditUp(int w, int manner, int down) {
        long agreed = (long) settledFor[w] * down;
        long byWeight = (long) lossNow * sumOver(units[w], weights);
        if (manner == 0) {
            return agreed;
        }
        return manner == 1 ? byWeight : Math.max(agreed, byWeight);
    }

    private long creditsUp(int manner, int settled, int down) {
        int heads = unitHeads() & settled;
        long sum = 0;
        for (int w = 0; w < WRONGDOERS; w++) {
            if (has(heads, w)) {
                sum += creditUp(w, manner, down);
            }
        }
        return sum;
    }

    private Owed owedNow() {
        return owedIf(settings[MANNER], settings[SPREAD], settledSet, brokeSet);
    }

    /** What would be owed: asking about another case must leave this one as it is. */
    private Owed owedIf(int manner, int spread, int settled, int broke) {
        int open = sumOver(inCase & ~settled, weights);
        int lacking = sumOver(openBroke(settled, broke), weights);
        int sharers = 0;
        if (spread == 0) {
            sharers = open - lacking;
        } else if (spread == 1) {
            sharers = open - lacking + claimantWeight;
        }
        int down = blameDown();
        return new Owed(entitledUp(), creditsUp(manner, settled, down), down, open, lacking, sharers);
    }

    private Share gotBy(int manner, int spread) {
        Owed owed = owedIf(manner, spread, settledSet, brokeSet);
        return owed.dues.plusWhole(sumOver(unitHeads() & settledSet, settledFor));
    }

    /** The weight by which a unit's DUE is counted: 0 where it owes nothing. */
    private int unitBears(int w, int settled) {
        boolean owes = !has(settled, w) && !has(openBroke(settled, brokeSet), w);
        return owes ? sumOver(units[w], weights) : 0;
    }

    /**
     * The weight by which a wrongdoer's DUE is counted. A pair's DUE is in the ratio of its weights
     * together, so parting it between both leaves each its own weight.
     */
    private int bears(int w) {
        if (has(settledSet | brokeSet, w)) {
            return 0;
        }
        boolean otherBroke = (units[w] & brokeSet) != 0;
        return otherBroke ? sumOver(units[w], weights) : weights[w];
    }

    // ---- what was paid, inside

    private int allPaid() {
        return sumOver(inCase, paid);
    }

    /** FAIR, in parts of fairDown: DUES are to one another as the weights that are borne. */
    private long fairUp(int w, Owed owed) {
        return owed.dues.up == 0 ? 0 : (long) allPaid() * bears(w);
    }

    private long overUp(int w, Owed owed) {
        return paid[w] * owed.fairDown - fairUp(w, owed);
    }

    private void evenOut(Owed owed) {
        for (int w = 0; w < WRONGDOERS; w++) {
            flow.overs[w] = isKnown(w) ? overUp(w, owed) : 0;
        }
        flow.find();
    }

    /** What is owed, by one manner and spread, with these settled and these broke. */
    private static final class Owed {
        final Share entitled;
        final Share credits;
        final Share rest;
        // DUE of a unit that owes, for each 1 of its weight.
        final Share perWeight;
        final Share dues;
        final Share missed;
        final long fairDown;

        /**
         * The upper numbers are in parts of down; open is the weight of the open units, lacking that
         * of the broke ones among them, sharers that of those on whom the broke ones' parts come.
         */
        Owed(long entitledUp, long creditsUp, long down, int open, int lacking, int sharers) {
            long restUp = Math.max(entitledUp - creditsUp, 0);
            entitled = Share.of(entitledUp, down);
            credits = Share.of(creditsUp, down);
            rest = Share.of(restUp, down);
            if (sharers == 0) {
                perWeight = Share.of(restUp, down * open);
            } else {
                // rest by open, and lacking times that by sharers, on one lower number
                perWeight = Share.of(restUp * (sharers + lacking), down * open * sharers);
            }
            dues = perWeight.times(open - lacking);
            // What nobody owes of the rest is missed, in whichever way it went astray.
            missed = rest.minus(dues);
            fairDown = dues.up == 0 ? 1 : open - lacking;
        }
    }

    /** A share in least terms. Uppers stay under 10^18 here, and lowers under 10^12. */
    private static final class Share {
        // Euclid needs fewer steps than this for any two longs.
        private static final int MOST_STEPS = 100;

        final long up;
        final long down;

        private Share(long up, long down) {
            this.up = up;
            this.down = down;
        }

        /** Among no weight at all nothing is parted: a lower number of 0 makes a share of 0. */
        static Share of(long up, long down) {
            if (down <= 0) {
                return new Share(0, 1);
            }
            long common = commonDivisor(Math.abs(up), down);
            return new Share(up / common, down / common);
        }

        private static long commonDivisor(long a, long b) {
            long greater = a;
            long lesser = b;
            for (int step = 0; step < MOST_STEPS && lesser != 0; step++) {
                long left = greater % lesser;
                greater = lesser;
                lesser = left;
            }
            return greater > 0 ? greater : 1;
        }

        Share times(long factor) {
            return of(up * factor, down);
        }

        Share plusWhole(long whole) {
            return of(up + whole * down, down);
        }

        /** By the least common lower number, since the product of both could be too great. */
        Share minus(Share other) {
            long common = commonDivisor(down, other.down);
            long ours = down / common;
            long theirs = other.down / common;
            return of(up * theirs - other.up * ours, down * theirs);
        }

        long told(int which) {
            return which == 0 ? up : down;
        }
    }

    /** Who gives whom how much; the rows are made once and used for every call. */
    private static final class Flow {
        // Each transfer and each step to the next giver or taker is one turn.
        private static final int MOST_TURNS = 4 * WRONGDOERS;

        final long[] overs = new long[WRONGDOERS];
        final int[] givers = new int[WRONGDOERS];
        final int[] takers = new int[WRONGDOERS];
        final long[] gifts = new long[WRONGDOERS];
        int count;

        boolean holds(int k) {
            return k >= 0 && k < count && k < gifts.length;
        }

        void find() {
            count = 0;
            int giver = 0;
            int taker = 0;
            for (int turn = 0; turn < MOST_TURNS; turn++) {
                if (giver >= WRONGDOERS || taker >= WRONGDOERS || count >= gifts.length) {
                    return;
                }
                if (overs[giver] >= 0) {
                    giver++;
                } else if (overs[taker] <= 0) {
                    taker++;
                } else {
                    give(giver, taker);
                }
            }
        }

        private void give(int giver, int taker) {
            long gift = Math.min(-overs[giver], overs[taker]);
            overs[giver] += gift;
            overs[taker] -= gift;
            givers[count] = giver;
            takers[count] = taker;
            gifts[count] = gift;
            count++;
        }
    }
}
