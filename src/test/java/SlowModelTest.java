import java.util.Random;

/** Runs of calls made by chance (the same ones each time), with the slow model's answers as those that are due. */
public final class SlowModelTest {
    private static final int OBJECTS = 250;

    private final Random chance;
    private final int run;
    private FreightPaths x;
    private SlowModel model;
    private int stations;
    private int bids;
    /** How many minutes wide the bids of this run ask. */
    private int span;
    /** Whether they ask for the end of the day, so that late trains come near the last minute of the run. */
    private boolean isLate;

    private SlowModelTest(int run) {
        this.run = run;
        this.chance = new Random(run * 7919L + 11);
    }

    public static void main(String[] args) {
        for (int run = 0; run < OBJECTS; run++) {
            new SlowModelTest(run).go();
        }
        Due.finish("SlowModelTest");
    }

    /** Mostly a number from 0 on, now and then one beside the range. */
    private int some(int most) {
        return chance.nextInt(40) == 0 ? (chance.nextBoolean() ? -1 : most + 1) : chance.nextInt(most + 1);
    }

    private int someBid() {
        return some(Math.max(0, bids - 1));
    }

    private void go() {
        stations = chance.nextInt(3) == 0 ? 2 + chance.nextInt(7) : 2 + chance.nextInt(3);
        span = 10 + chance.nextInt(chance.nextInt(4) == 0 ? 230 : 50);
        isLate = chance.nextInt(4) == 0;
        x = new FreightPaths(stations);
        model = new SlowModel(stations);
        int most = chance.nextBoolean() ? 5 : 16;
        for (int k = 0; k < stations - 1; k++) {
            if (chance.nextBoolean()) {
                aSection(k);
            }
        }
        for (int i = 0; i < 40; i++) {
            if (bids < most && (i < most || chance.nextInt(4) == 0)) {
                aBid();
            }
            change();
            ask();
        }
    }

    private void due(String call, long got, long want) {
        Due.due("run " + run + ": " + call, got, want);
    }

    private static long one(boolean answer) {
        return answer ? 1 : 0;
    }

    private void aSection(int k) {
        boolean twoWays = chance.nextInt(3) == 0;
        int fast = 1 + some(chance.nextBoolean() ? 7 : 29);
        int slow = 1 + some(chance.nextBoolean() ? 9 : 29);
        due("section", one(x.section(k, twoWays, fast, slow)), one(model.section(k, twoWays, fast, slow)));
    }

    private void aBid() {
        int from = chance.nextInt(stations);
        int to = (from + 1 + chance.nextInt(stations - 1)) % stations;
        int what = chance.nextInt(6) * 10000 + from * 1000 + to * 100 + chance.nextInt(2) * 10;
        int earliest = (isLate ? Math.max(0, 225 - span) : 0) + chance.nextInt(chance.nextInt(3) == 0 ? 60 : 10);
        earliest = Math.min(239, earliest);
        int latest = Math.min(239, chance.nextInt(20) == 0 ? chance.nextInt(240) : earliest + span / 2 + chance.nextInt(span));
        int worth = chance.nextInt(chance.nextBoolean() ? 5 : 1001);
        int rank = chance.nextInt(chance.nextBoolean() ? 4 : 100);
        int when = earliest * 1000 + latest;
        if (chance.nextInt(15) == 0) {
            what += chance.nextInt(200000) - 60000;
        }
        if (chance.nextInt(30) == 0) {
            when += chance.nextInt(400000) - 100000;
        }
        int number = x.bid(what, when, worth, rank);
        due("bid(" + what + ", " + when + ", " + worth + ", " + rank + ")", number, model.bid(what, when, worth, rank));
        bids = number == FreightPaths.NONE ? bids : number + 1;
    }

    private void change() {
        int a = someBid();
        int b = someBid();
        int station = some(stations - 1);
        switch (chance.nextInt(16)) {
            case 0 -> aSection(some(stations - 2));
            case 1 -> {
                int n = some(chance.nextBoolean() ? 2 : 9);
                due("tracks", one(x.tracks(station, n)), one(model.tracks(station, n)));
            }
            case 2 -> {
                int minutes = some(9);
                due("headway", one(x.headway(minutes)), one(model.headway(minutes)));
            }
            case 3 -> {
                int k = some(stations - 2);
                int from = chance.nextInt(5) == 0 ? some(480) : some(60) + (isLate ? 180 + chance.nextInt(240) : 0);
                int to = chance.nextInt(5) == 0 ? some(480) : from + some(20);
                due("works", one(x.works(k, from, to)), one(model.works(k, from, to)));
            }
            case 4 -> due("link", one(x.link(a, b)), one(model.link(a, b)));
            case 5, 6, 7, 8 -> due("give(" + a + ")", one(x.give(a)), one(model.give(a)));
            case 9 -> due("drop(" + a + ")", one(x.drop(a)), one(model.drop(a)));
            case 10 -> due("round()", x.round(), model.round());
            case 11 -> {
                if (bids <= 4 || bids > 5 || chance.nextInt(4) == 0) {
                    due("best()", x.best(), model.best());
                }
            }
            default -> {
                int minutes = isLate ? 60 - some(8) : some(chance.nextBoolean() ? 8 : 60);
                due("delay", one(x.delay(a, station, minutes)), one(model.delay(a, station, minutes)));
            }
        }
    }

    private void ask() {
        int a = someBid();
        int b = someBid();
        due("find(" + a + ")", x.find(a), model.find(a));
        for (int what = -1; what <= 3; what++) {
            due("why(" + what + ")", x.why(what), model.why(what));
        }
        for (int station = -1; station <= stations; station++) {
            due("path(" + b + ", " + station + ")", x.path(b, station), model.path(b, station));
        }
        for (int what = -1; what <= 6; what++) {
            due("count(" + what + ")", x.count(what), model.count(what));
        }
        if (chance.nextInt(3) == 0) {
            for (int what = -1; what <= 6; what++) {
                due("ran(" + a + ", " + what + ")", x.ran(a, what), model.ran(a, what));
            }
            due("blame(" + a + ", " + b + ")", x.blame(a, b), model.blame(a, b));
            int house = some(5);
            due("balance(" + house + ")", x.balance(house), model.balance(house));
        }
    }
}
