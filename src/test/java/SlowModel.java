import java.util.ArrayList;
import java.util.List;

/**
 * The document word by word and minute by minute, without care for speed: every question is asked of single
 * minutes, paths are tried from their end back as the words about FOUND go, and all orders are tried whole.
 */
final class SlowModel {
    private static final int NONE = -1;

    private static final class Train {
        int number, house, from, to, kind, earliest, latest, worth, rank;
        int linked = NONE;
        int[] leaves;
        final int[] delay = new int[8];
        int[] ranLeaves;
        int ranEnd;
        int self, nobody;
        final int[] others = new int[16];

        int way() {
            return Integer.signum(to - from);
        }

        int steps() {
            return Math.abs(to - from);
        }

        int station(int step) {
            return from + step * way();
        }

        int section(int step) {
            return Math.min(station(step), station(step + 1));
        }
    }

    private final int stations;
    private final boolean[] isDouble = new boolean[7];
    private final int[][] length = new int[2][7];
    private final int[] tracks = new int[8];
    private int headway = 1;
    private final List<int[]> works = new ArrayList<>();
    private final List<Train> trains = new ArrayList<>();

    SlowModel(int stations) {
        this.stations = stations < 2 ? 2 : stations > 8 ? 8 : stations;
        for (int i = 0; i < 7; i++) {
            length[0][i] = 5;
            length[1][i] = 8;
        }
        for (int i = 0; i < 8; i++) {
            tracks[i] = 2;
        }
    }

    private Train train(int number) {
        return number < 0 || number >= trains.size() ? null : trains.get(number);
    }

    boolean section(int k, boolean twoWays, int fast, int slow) {
        if (k < 0 || k > stations - 2 || fast < 1 || fast > 30 || slow < 1 || slow > 30 || count(2) != 0) {
            return false;
        }
        isDouble[k] = twoWays;
        length[0][k] = fast;
        length[1][k] = slow;
        return true;
    }

    boolean tracks(int station, int n) {
        if (station < 0 || station > stations - 1 || n < 0 || n > 9) {
            return false;
        }
        tracks[station] = n;
        return true;
    }

    boolean headway(int minutes) {
        if (minutes < 0 || minutes > 9) {
            return false;
        }
        headway = minutes;
        return true;
    }

    boolean works(int section, int from, int to) {
        if (section < 0 || section > stations - 2 || from < 0 || from > 480 || to < 0 || to > 480 || to <= from
            || works.size() == 10) {
            return false;
        }
        works.add(new int[] {section, from, to});
        return true;
    }

    int bid(int what, int when, int worth, int rank) {
        if (what < 0 || when < 0 || worth < 0 || worth > 1000 || rank < 0 || rank > 99 || trains.size() == 16) {
            return NONE;
        }
        Train t = new Train();
        t.number = trains.size();
        t.house = what / 10000;
        t.from = what % 10000 / 1000;
        t.to = what % 1000 / 100;
        t.kind = what % 100 / 10;
        t.earliest = when / 1000;
        t.latest = when % 1000;
        t.worth = worth;
        t.rank = rank;
        if (t.house > 5 || t.from >= stations || t.to >= stations || t.from == t.to || t.kind > 1 || what % 10 != 0
            || t.earliest > 239 || t.latest > 239) {
            return NONE;
        }
        trains.add(t);
        return t.number;
    }

    boolean link(int a, int b) {
        if (train(a) == null || train(b) == null || a == b || train(a).linked != NONE || train(b).linked != NONE) {
            return false;
        }
        train(a).linked = b;
        train(b).linked = a;
        return true;
    }

    private boolean isClosed(int section, int minute) {
        for (int[] w : works) {
            if (w[0] == section && w[1] <= minute && minute < w[2]) {
                return true;
            }
        }
        return false;
    }

    private boolean isIn(Train t, int[] leaves, int section, int minute) {
        for (int step = 0; step < t.steps(); step++) {
            if (t.section(step) == section && leaves[step] != NONE && leaves[step] <= minute
                && minute < leaves[step] + length[t.kind][section]) {
                return true;
            }
        }
        return false;
    }

    private boolean holds(Train t, int[] leaves, int section, int minute) {
        for (int behind = 0; behind == 0 || behind <= headway - 1; behind++) {
            if (isIn(t, leaves, section, minute - behind)) {
                return true;
            }
        }
        return false;
    }

    private boolean stands(Train t, int station, int minute) {
        for (int step = 1; step < t.steps(); step++) {
            int comes = t.leaves[step - 1] + length[t.kind][t.section(step - 1)];
            if (t.station(step) == station && comes <= minute && minute < t.leaves[step]) {
                return true;
            }
        }
        return false;
    }

    private int standing(int station, int minute, Train without) {
        int n = 0;
        for (Train t : trains) {
            if (t != without && t.leaves != null && stands(t, station, minute)) {
                n++;
            }
        }
        return n;
    }

    private boolean mayLeave(Train t, int step, int minute) {
        int section = t.section(step);
        int[] leaves = {NONE, NONE, NONE, NONE, NONE, NONE, NONE, NONE};
        leaves[step] = minute;
        for (int m = 0; m < 300; m++) {
            boolean in = isIn(t, leaves, section, m);
            if (in && isClosed(section, m)) {
                return false;
            }
            for (Train o : trains) {
                if (o == t || o.leaves == null || (isDouble[section] && o.way() != t.way())) {
                    continue;
                }
                if (in && holds(o, o.leaves, section, m) || isIn(o, o.leaves, section, m) && holds(t, leaves, section, m)) {
                    return false;
                }
            }
        }
        return true;
    }

    /** Whether it can come to a step in a minute; tries least standing first, and keeps what it found. */
    private boolean canCome(Train t, int step, int coming, int[] leaves, boolean[][] inVain) {
        int leaving = coming - length[t.kind][t.section(step - 1)];
        if (leaving < t.earliest || inVain[step][coming] || !mayLeave(t, step - 1, leaving)) {
            return false;
        }
        leaves[step - 1] = leaving;
        if (step == 1) {
            return true;
        }
        for (int stood = 0; leaving - stood >= 0; stood++) {
            if (stood > 0 && standing(t.station(step - 1), leaving - stood, t) + 1 > tracks[t.station(step - 1)]) {
                break;
            }
            if (canCome(t, step - 1, leaving - stood, leaves, inVain)) {
                return true;
            }
        }
        inVain[step][coming] = true;
        return false;
    }

    private int[] found(Train t) {
        boolean[][] inVain = new boolean[8][240];
        for (int end = 0; end <= t.latest; end++) {
            int[] leaves = new int[8];
            if (canCome(t, t.steps(), end, leaves, inVain)) {
                leaves[t.steps()] = end;
                return leaves;
            }
        }
        return null;
    }

    int find(int bid) {
        int[] leaves = train(bid) == null ? null : found(train(bid));
        return leaves == null ? NONE : leaves[train(bid).steps()];
    }

    boolean give(int bid) {
        int[] leaves = train(bid) == null ? null : found(train(bid));
        if (leaves == null) {
            return false;
        }
        train(bid).leaves = leaves;
        return true;
    }

    boolean drop(int bid) {
        if (train(bid) == null || train(bid).leaves == null) {
            return false;
        }
        train(bid).leaves = null;
        return true;
    }

    private List<Train> byRank() {
        List<Train> sorted = new ArrayList<>(trains);
        sorted.sort((a, b) -> a.rank != b.rank ? a.rank - b.rank : a.number - b.number);
        return sorted;
    }

    private void come(List<Train> order) {
        List<Train> left = new ArrayList<>(order);
        for (Train t : trains) {
            t.leaves = null;
        }
        while (!left.isEmpty()) {
            Train first = left.remove(0);
            Train second = train(first.linked);
            left.remove(second);
            first.leaves = found(first);
            if (second != null) {
                second.leaves = first.leaves == null ? null : found(second);
                if (second.leaves == null) {
                    first.leaves = null;
                }
            }
        }
    }

    int round() {
        come(byRank());
        return count(2);
    }

    private void orders(List<Train> begun, List<List<Train>> all) {
        if (begun.size() == trains.size()) {
            all.add(new ArrayList<>(begun));
        }
        for (Train t : trains) {
            if (!begun.contains(t)) {
                begun.add(t);
                orders(begun, all);
                begun.remove(begun.size() - 1);
            }
        }
    }

    int best() {
        if (trains.isEmpty() || trains.size() > 5) {
            return NONE;
        }
        List<List<Train>> all = new ArrayList<>();
        orders(new ArrayList<>(), all);
        List<Train> best = null;
        int most = -1;
        for (List<Train> order : all) {
            come(order);
            if (count(3) > most) {
                most = count(3);
                best = order;
            }
        }
        come(best);
        return most;
    }

    int path(int bid, int station) {
        Train t = train(bid);
        if (t != null && t.leaves != null) {
            for (int step = 0; step <= t.steps(); step++) {
                if (t.station(step) == station) {
                    return t.leaves[step];
                }
            }
        }
        return NONE;
    }

    private boolean breaks(Train t, int rule, int minute) {
        for (int k = 0; k < stations - 1; k++) {
            if (rule == 1 && isIn(t, t.leaves, k, minute) && isClosed(k, minute)) {
                return true;
            }
            for (Train o : trains) {
                if (rule == 2 && o != t && o.leaves != null && isIn(t, t.leaves, k, minute) && holds(o, o.leaves, k, minute)
                    && (!isDouble[k] || o.way() == t.way())) {
                    return true;
                }
            }
        }
        for (int s = 0; s < stations; s++) {
            if (rule == 3 && stands(t, s, minute) && standing(s, minute, null) > tracks[s]) {
                return true;
            }
        }
        return false;
    }

    int why(int what) {
        for (Train t : trains) {
            for (int rule = 1; rule <= 3 && t.leaves != null; rule++) {
                for (int minute = 0; minute < 300; minute++) {
                    if (breaks(t, rule, minute)) {
                        return what == 0 ? t.number : what == 1 ? rule : what == 2 ? minute : NONE;
                    }
                }
            }
        }
        return NONE;
    }

    boolean delay(int bid, int station, int minutes) {
        if (train(bid) == null || station < 0 || station > stations - 1 || minutes < 0 || minutes > 60) {
            return false;
        }
        train(bid).delay[station] = minutes;
        return true;
    }

    private void run() {
        List<Train> running = byRank();
        running.removeIf(t -> t.leaves == null);
        int[][] left = new int[16][];
        for (Train t : trains) {
            t.ranLeaves = new int[] {NONE, NONE, NONE, NONE, NONE, NONE, NONE, NONE};
            t.ranEnd = NONE;
            t.self = 0;
            t.nobody = 0;
            java.util.Arrays.fill(t.others, 0);
            left[t.number] = t.delay.clone();
        }
        for (int minute = 0; minute <= 479; minute++) {
            for (Train t : running) {
                runMinute(t, minute, left[t.number], running);
            }
        }
    }

    private void runMinute(Train t, int minute, int[] left, List<Train> running) {
        int step = 0;
        while (step < t.steps() && t.ranLeaves[step] != NONE) {
            step++;
        }
        if (step > 0 && minute < t.ranLeaves[step - 1] + length[t.kind][t.section(step - 1)]) {
            return;
        }
        if (step == t.steps()) {
            t.ranEnd = t.ranLeaves[step - 1] + length[t.kind][t.section(step - 1)];
            return;
        }
        if (t.leaves[step] > minute) {
            return;
        }
        if (left[t.station(step)] > 0) {
            left[t.station(step)]--;
            t.self++;
            return;
        }
        if (isClosed(t.section(step), minute)) {
            t.nobody++;
            return;
        }
        for (Train o : running) {
            if (o != t && holds(o, o.ranLeaves, t.section(step), minute)
                && (!isDouble[t.section(step)] || o.way() == t.way())) {
                t.others[o.number]++;
                return;
            }
        }
        t.ranLeaves[step] = minute;
    }

    int ran(int bid, int what) {
        Train t = train(bid);
        if (t == null || t.leaves == null || what < 0 || what > 5) {
            return NONE;
        }
        run();
        if (t.ranEnd == NONE) {
            return NONE;
        }
        int others = 0;
        for (int minutes : t.others) {
            others += minutes;
        }
        int late = t.ranEnd - t.leaves[t.steps()];
        int[] answers = {t.ranEnd, late, t.self, t.nobody, others, t.self + t.nobody + others - late};
        return answers[what];
    }

    int blame(int bid, int other) {
        if (train(bid) == null || train(other) == null) {
            return NONE;
        }
        run();
        return train(bid).others[other];
    }

    int balance(int house) {
        run();
        int coins = 0;
        for (Train t : trains) {
            for (Train o : trains) {
                if (t.house != o.house && t.house == house) {
                    coins += t.others[o.number];
                }
                if (t.house != o.house && o.house == house) {
                    coins -= t.others[o.number];
                }
            }
        }
        return coins;
    }

    int count(int what) {
        int paths = 0;
        int worths = 0;
        for (Train t : trains) {
            paths += t.leaves == null ? 0 : 1;
            worths += t.leaves == null ? 0 : t.worth;
        }
        int[] answers = {stations, trains.size(), paths, worths, works.size(), headway};
        return what < 0 || what > 5 ? NONE : answers[what];
    }
}
