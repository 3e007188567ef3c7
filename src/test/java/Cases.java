/** What several tests start from. */
final class Cases {
    static final long LOST = Long.MIN_VALUE;
    /** No numbers of wrongdoers; some of them would be, if only their last bits were looked at. */
    static final int[] STRANGE = {Integer.MIN_VALUE, -9, -1, 6, 7, 31, 32, 33, 64, Integer.MAX_VALUE};
    static final int[] NO_WHICH = {Integer.MIN_VALUE, -1, 2, Integer.MAX_VALUE};

    private Cases() { }

    static SharedFault with(int loss, int claimant, int... weights) {
        SharedFault x = new SharedFault();
        x.loss(loss);
        x.claimant(claimant);
        for (int weight : weights) {
            x.wrong(weight);
        }
        return x;
    }
}
