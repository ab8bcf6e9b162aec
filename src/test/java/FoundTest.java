import java.util.ArrayList;
import java.util.Arrays;
import java.util.List;
import java.util.Random;

/**
 * FOUND as the document says it, of small lines: all paths of a bid are made, those fall out with which anyone breaks
 * a rule, and the rest are compared. Sections, tracks, headway and works come first, so none breaks a rule before.
 */
public final class FoundTest {
    private static final int DESKS = 4000;

    /** A train with its path: the minutes of coming to its stations (the first one's don't count) and of leaving them. */
    private static final class Train {
        int from, to, kind, earliest, latest;
        int[] comes, leaves;

        int steps() {
            return Math.abs(to - from);
        }

        int station(int step) {
            return to > from ? from + step : from - step;
        }

        int section(int step) {
            return Math.min(station(step), station(step + 1));
        }

        boolean isIn(int section, int minute) {
            for (int step = 0; step < steps(); step++) {
                if (section(step) == section && minute >= leaves[step] && minute < comes[step + 1]) {
                    return true;
                }
            }
            return false;
        }

        boolean stands(int station, int minute) {
            for (int step = 1; step < steps(); step++) {
                if (station(step) == station && minute >= comes[step] && minute < leaves[step]) {
                    return true;
                }
            }
            return false;
        }
    }

    private final Random chance;
    private final int stations;
    private final FreightPaths desk;
    private final boolean[] isDouble;
    private final int[][] minutes;
    private final int[] tracks;
    private final int headway;
    private final List<int[]> works = new ArrayList<>();
    private final List<Train> given = new ArrayList<>();
    /** The first minute with which this desk has to do, and one behind the last. */
    private final int first;
    private final int behindLast;
    private Train best;

    private FoundTest(int number) {
        chance = new Random(number * 104729L + 5);
        stations = 2 + chance.nextInt(3);
        desk = new FreightPaths(stations);
        isDouble = new boolean[stations - 1];
        minutes = new int[2][stations - 1];
        tracks = new int[stations];
        headway = chance.nextInt(chance.nextInt(3) == 0 ? 10 : 4);
        first = chance.nextInt(4) == 0 ? 239 - 22 : chance.nextInt(3);
        behindLast = Math.min(240, first + 24);
    }

    public static void main(String[] args) {
        for (int number = 0; number < DESKS; number++) {
            FoundTest one = new FoundTest(number);
            one.setUp();
            for (int bid = 0; bid < 7; bid++) {
                one.bidComes(number, bid);
            }
        }
        Due.finish("FoundTest");
    }

    private void setUp() {
        desk.headway(headway);
        for (int k = 0; k < stations - 1; k++) {
            isDouble[k] = chance.nextInt(3) == 0;
            minutes[0][k] = 1 + chance.nextInt(4);
            minutes[1][k] = 1 + chance.nextInt(5);
            desk.section(k, isDouble[k], minutes[0][k], minutes[1][k]);
        }
        for (int s = 0; s < stations; s++) {
            tracks[s] = chance.nextInt(3);
            desk.tracks(s, tracks[s]);
        }
        for (int i = chance.nextInt(3); i > 0; i--) {
            int from = first + chance.nextInt(20);
            int[] closing = {chance.nextInt(stations - 1), from, from + 1 + chance.nextInt(6)};
            works.add(closing);
            desk.works(closing[0], closing[1], closing[2]);
        }
    }

    private void bidComes(int number, int bid) {
        Train t = new Train();
        t.from = chance.nextInt(stations);
        t.to = (t.from + 1 + chance.nextInt(stations - 1)) % stations;
        t.kind = chance.nextInt(2);
        t.earliest = first + chance.nextInt(6);
        t.latest = Math.min(behindLast - 1, t.earliest + chance.nextInt(23));
        desk.bid(t.from * 1000 + t.to * 100 + t.kind * 10, t.earliest * 1000 + t.latest, 1, 0);
        t.comes = new int[t.steps() + 1];
        t.leaves = new int[t.steps()];
        best = null;
        tryPaths(t, 0, t.earliest);
        String call = "desk " + number + ", bid " + bid;
        Due.due(call + ": find", desk.find(bid), best == null ? FreightPaths.NONE : best.comes[t.steps()]);
        Due.due(call + ": give", desk.give(bid), best != null);
        for (int step = 0; step <= t.steps(); step++) {
            int want = best == null ? FreightPaths.NONE : step == t.steps() ? best.comes[step] : best.leaves[step];
            Due.due(call + ": path at " + t.station(step), desk.path(bid, t.station(step)), want);
        }
        if (best != null) {
            given.add(best);
        }
    }

    private void tryPaths(Train t, int step, int from) {
        if (step == t.steps()) {
            if ((best == null || isBetter(t)) && allRulesAreKept(t)) {
                best = copyOf(t);
            }
            return;
        }
        int length = minutes[t.kind][t.section(step)];
        for (int leaving = from; leaving + length <= t.latest; leaving++) {
            t.leaves[step] = leaving;
            t.comes[step + 1] = leaving + length;
            tryPaths(t, step + 1, leaving + length);
        }
    }

    private static Train copyOf(Train t) {
        Train copy = new Train();
        copy.from = t.from;
        copy.to = t.to;
        copy.comes = Arrays.copyOf(t.comes, t.comes.length);
        copy.leaves = Arrays.copyOf(t.leaves, t.leaves.length);
        return copy;
    }

    private boolean isBetter(Train t) {
        if (t.comes[t.steps()] != best.comes[t.steps()]) {
            return t.comes[t.steps()] < best.comes[t.steps()];
        }
        for (int step = t.steps() - 1; step > 0; step--) {
            int stood = t.leaves[step] - t.comes[step];
            int stoodByBest = best.leaves[step] - best.comes[step];
            if (stood != stoodByBest) {
                return stood < stoodByBest;
            }
        }
        return false;
    }

    private boolean allRulesAreKept(Train t) {
        List<Train> all = new ArrayList<>(given);
        all.add(t);
        for (int minute = first; minute < behindLast; minute++) {
            for (int k = 0; k < stations - 1; k++) {
                if (isBrokenIn(k, minute, all)) {
                    return false;
                }
            }
            for (int s = 0; s < stations; s++) {
                int standing = 0;
                for (Train each : all) {
                    standing += each.stands(s, minute) ? 1 : 0;
                }
                if (standing > tracks[s]) {
                    return false;
                }
            }
        }
        return true;
    }

    private boolean isBrokenIn(int section, int minute, List<Train> all) {
        for (Train one : all) {
            if (!one.isIn(section, minute)) {
                continue;
            }
            for (int[] closing : works) {
                if (closing[0] == section && minute >= closing[1] && minute < closing[2]) {
                    return true;
                }
            }
            for (Train other : all) {
                boolean isShared = !isDouble[section] || one.to > one.from == other.to > other.from;
                if (other != one && isShared && holds(other, section, minute)) {
                    return true;
                }
            }
        }
        return false;
    }

    private boolean holds(Train t, int section, int minute) {
        for (int behind = 0; behind <= Math.max(0, headway - 1); behind++) {
            if (t.isIn(section, minute - behind)) {
                return true;
            }
        }
        return false;
    }
}
