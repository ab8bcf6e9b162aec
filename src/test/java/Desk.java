/** Bids and lines that many cases use. */
final class Desk {
    static final int NONE = -1;
    static final int LOWEST = Integer.MIN_VALUE;
    static final int HIGHEST = Integer.MAX_VALUE;
    /** No bid, whatever came: numbers on both sides, and some that wrap around to others when they are multiplied. */
    static final int[] NO_BIDS = {LOWEST, LOWEST + 1, -17, -1, 16, 17, 1 << 28, 1 << 29, -(1 << 28), HIGHEST - 1, HIGHEST};
    /** No station of any line. */
    static final int[] NO_STATIONS = {LOWEST, LOWEST + 1, -8, -1, 8, 9, 1 << 29, 1 << 30, HIGHEST - 1, HIGHEST};

    private Desk() {
    }

    /** A fast one of house 0. */
    static int bid(FreightPaths x, int from, int to, int earliest, int latest) {
        return x.bid(from * 1000 + to * 100, earliest * 1000 + latest, 1, 0);
    }

    /** A slow one of house 0. */
    static int slow(FreightPaths x, int from, int to, int earliest, int latest) {
        return x.bid(from * 1000 + to * 100 + 10, earliest * 1000 + latest, 1, 0);
    }

    /** A fast one from 0 to 1. */
    static int ranked(FreightPaths x, int house, int earliest, int rank) {
        return x.bid(house * 10000 + 100, earliest * 1000 + 239, 1, rank);
    }

    /** Of three stations: a train must leave 0 by minute 5 (or behind 39), and can't leave 1 ahead of 20. */
    static FreightPaths lineWithStanding() {
        FreightPaths x = new FreightPaths(3);
        x.works(0, 10, 40);
        x.works(1, 0, 20);
        return x;
    }

    /**
     * One track at 1, where bid 0 from 0 to 2 stands from minute 15 to the one ahead of when section 1 was free for
     * it: it opens in a minute, and another train was there first, which like one behind it in section 0 is gone.
     */
    static FreightPaths lineWithOneStanding(int opens) {
        FreightPaths x = new FreightPaths(3);
        x.works(1, 0, opens);
        bid(x, 0, 2, 0, 239);
        bid(x, 1, 2, 0, 239);
        bid(x, 0, 1, 15, 239);
        x.give(1);
        x.give(2);
        x.give(0);
        x.drop(1);
        x.drop(2);
        x.tracks(1, 1);
        return x;
    }
}
