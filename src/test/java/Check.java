import java.util.ArrayList;
import java.util.List;

/** The answers of one case: how many were asked for, and which were not as due. */
final class Check {
    final List<String> wrong = new ArrayList<>();
    int asked;

    void due(String call, long got, long want) {
        asked++;
        if (got != want) {
            wrong.add(call + " answered " + got + ", due is " + want);
        }
    }

    void due(String call, boolean got, boolean want) {
        due(call, got ? 1 : 0, want ? 1 : 0);
    }

    void due(String call, String got, String want) {
        asked++;
        if (!got.equals(want)) {
            wrong.add(call + " answered " + got + ", due is " + want);
        }
    }

    /** The minutes of a bid's path, by stations from 0 on. */
    void path(FreightPaths x, int bid, int... minutes) {
        for (int station = 0; station < minutes.length; station++) {
            due("path(" + bid + ", " + station + ")", x.path(bid, station), minutes[station]);
        }
    }

    /** All that a train did in the run: its end, late, put down to itself, to none, to others, made up. */
    void ran(FreightPaths x, int bid, int... answers) {
        for (int what = 0; what < answers.length; what++) {
            due("ran(" + bid + ", " + what + ")", x.ran(bid, what), answers[what]);
        }
    }

    void why(FreightPaths x, int bid, int rule, int minute) {
        due("why(0)", x.why(0), bid);
        due("why(1)", x.why(1), rule);
        due("why(2)", x.why(2), minute);
    }
}
