/** Every promise by hand: ordinary inputs, the edges that the document names, and wrong inputs. */
public final class PromisesTest {
    private static final int NONE = FreightPaths.NONE;
    private static final int LOWEST = Integer.MIN_VALUE;
    private static final int HIGHEST = Integer.MAX_VALUE;

    public static void main(String[] args) {
        promise1NewObject();
        promise2Section();
        promise3Tracks();
        promise4Headway();
        promise5Works();
        promise6Bid();
        promise7Link();
        promise8Find();
        promise9Give();
        promise10Drop();
        promise11Round();
        promise12Best();
        promise13Path();
        promise14Why();
        promise15Delay();
        promise16Ran();
        promise17Blame();
        promise18Balance();
        promise19Count();
        Due.finish("PromisesTest");
    }

    private static void due(String call, long got, long want) {
        Due.due(call, got, want);
    }

    private static void due(String call, boolean got, boolean want) {
        Due.due(call, got, want);
    }

    private static void path(String name, FreightPaths x, int bid, int... byStations) {
        for (int station = 0; station < byStations.length; station++) {
            due(name + ": path(" + bid + ", " + station + ")", x.path(bid, station), byStations[station]);
        }
    }

    /** A train must leave 0 by minute 5, and can't leave 1 ahead of 20: it has to stand at 1. */
    private static FreightPaths lineOnWhichOneMustStand() {
        FreightPaths x = new FreightPaths(3);
        x.works(0, 10, 40);
        x.works(1, 0, 20);
        return x;
    }

    private static void promise1NewObject() {
        int[][] stations = {{LOWEST, 2}, {-1, 2}, {0, 2}, {1, 2}, {2, 2}, {3, 3}, {7, 7}, {8, 8}, {9, 8}, {HIGHEST, 8}};
        for (int[] row : stations) {
            due("1: stations of new FreightPaths(" + row[0] + ")", new FreightPaths(row[0]).count(0), row[1]);
        }
        FreightPaths x = new FreightPaths(3);
        due("1: bids at first", x.count(1), 0);
        due("1: paths at first", x.count(2), 0);
        due("1: worths at first", x.count(3), 0);
        due("1: works at first", x.count(4), 0);
        due("1: headway at first", x.count(5), 1);
        x.bid(200, 99, 1, 0);
        x.bid(210, 99, 1, 0);
        x.bid(1000, 99, 1, 0);
        due("1: two sections fast", x.find(0), 10);
        due("1: two sections slow", x.find(1), 16);
        x.give(0);
        due("1: sections are single at first", x.find(2), 10);
        FreightPaths y = lineOnWhichOneMustStand();
        for (int i = 0; i < 3; i++) {
            y.bid(200, 99, 1, i);
        }
        y.round();
        due("1: two tracks at first, the first one", y.path(0, 2), 25);
        due("1: two tracks at first, the second one", y.path(1, 2), 30);
        due("1: two tracks at first, the third one", y.path(2, 2), 50);
    }

    private static void promise2Section() {
        FreightPaths x = new FreightPaths(3);
        x.bid(200, 199, 1, 0);
        x.bid(210, 199, 1, 0);
        x.bid(2000, 199, 1, 0);
        int[][] wrong = {{-1, 5, 5}, {2, 5, 5}, {LOWEST, 5, 5}, {HIGHEST, 5, 5}, {0, 0, 5}, {0, 31, 5}, {0, 5, 0},
            {0, 5, 31}, {0, -1, 5}, {0, 5, HIGHEST}, {1, LOWEST, LOWEST}};
        for (int[] row : wrong) {
            due("2: section(" + row[0] + ", .., " + row[1] + ", " + row[2] + ")", x.section(row[0], true, row[1], row[2]), false);
        }
        due("2: fast as before", x.find(0), 10);
        due("2: slow as before", x.find(1), 16);
        due("2: other minutes", x.section(0, false, 7, 9), true);
        due("2: fast by the new minutes", x.find(0), 12);
        due("2: slow by the new minutes", x.find(1), 17);
        due("2: least and most", x.section(1, false, 1, 30), true);
        due("2: fast with the least", x.find(0), 8);
        due("2: slow with the most", x.find(1), 39);
        x.give(0);
        due("2: single", x.find(2), 14);
        due("2: refused while a path is given", x.section(1, true, 5, 8), false);
        due("2: the length stays", x.find(0), 8);
        x.drop(0);
        due("2: double when none is given", x.section(0, true, 5, 8) && x.section(1, true, 5, 8), true);
        x.give(0);
        due("2: in double ones the other way is free", x.find(2), 10);
        due("2: in double ones the same way is not", x.find(1), 21);
        x.drop(0);
        due("2: single again", x.section(0, false, 5, 8), true);
        x.give(0);
        due("2: single again, the other way waits", x.find(2), 10);
        due("2: .. and leaves as late as it can", x.give(2) && x.path(2, 1) == 5, true);
    }

    private static void promise3Tracks() {
        FreightPaths x = lineOnWhichOneMustStand();
        x.bid(200, 99, 1, 0);
        x.bid(200, 99, 1, 1);
        int[][] wrong = {{-1, 1}, {3, 1}, {LOWEST, 1}, {HIGHEST, 1}, {0, -1}, {0, 10}, {1, HIGHEST}, {1, LOWEST}};
        for (int[] row : wrong) {
            due("3: tracks(" + row[0] + ", " + row[1] + ")", x.tracks(row[0], row[1]), false);
        }
        due("3: no track", x.tracks(1, 0), true);
        due("3: none can stand", x.find(0), 50);
        due("3: one track", x.tracks(1, 1), true);
        due("3: one can stand", x.find(0), 25);
        due("3: it is given", x.give(0), true);
        due("3: a second one can't", x.find(1), 50);
        due("3: two tracks while a path is given", x.tracks(1, 2), true);
        due("3: a second one can", x.find(1), 30);
        due("3: most tracks", x.tracks(2, 9), true);
        due("3: none at the ends", x.tracks(0, 0) && x.tracks(2, 0), true);
        due("3: at the ends none stands", x.find(1), 30);

        FreightPaths y = lineOnWhichOneMustStand();
        y.bid(1200, 99, 1, 0);
        y.bid(100, 99, 1, 0);
        y.bid(200, 99, 1, 0);
        y.tracks(1, 1);
        y.give(0);
        y.give(1);
        path("3: it waits at its first station", y, 0, NONE, 20, 25);
        path("3: it ends at the station", y, 1, 0, 5);
        due("3: neither stands there", y.find(2), 30);
    }

    private static void promise4Headway() {
        int[] ends = {10, 10, 11, 12, 13, 14, 15, 16, 17, 18};
        for (int minutes = 0; minutes < ends.length; minutes++) {
            FreightPaths x = new FreightPaths(2);
            x.bid(100, 99, 1, 0);
            x.bid(100, 99, 1, 0);
            x.bid(100, 10099, 1, 0);
            due("4: headway(" + minutes + ")", x.headway(minutes), true);
            due("4: it is kept", x.count(5), minutes);
            x.give(0);
            due("4: behind another one with headway " + minutes, x.find(1), ends[minutes]);
            x.drop(0);
            x.give(2);
            int ahead = 10 - 5 - Math.max(0, minutes - 1);
            due("4: ahead of another one with headway " + minutes, x.find(1), ahead >= 0 ? 5 : 15 + minutes - 1 + 5);
        }
        FreightPaths x = new FreightPaths(2);
        for (int minutes : new int[] {-1, 10, LOWEST, HIGHEST}) {
            due("4: headway(" + minutes + ")", x.headway(minutes), false);
        }
        due("4: the headway stays", x.count(5), 1);
        x.bid(100, 5, 1, 0);
        x.give(0);
        due("4: while a path is given", x.headway(4), true);
    }

    private static void promise5Works() {
        FreightPaths x = new FreightPaths(3);
        int[][] wrong = {{-1, 0, 5}, {2, 0, 5}, {LOWEST, 0, 5}, {HIGHEST, 0, 5}, {0, -1, 5}, {0, 0, 481}, {0, 5, 5},
            {0, 6, 5}, {0, 480, 480}, {0, 480, 481}, {0, LOWEST, HIGHEST}, {0, 0, LOWEST}};
        for (int[] row : wrong) {
            due("5: works(" + row[0] + ", " + row[1] + ", " + row[2] + ")", x.works(row[0], row[1], row[2]), false);
        }
        due("5: none came", x.count(4), 0);
        x.bid(100, 99, 1, 0);
        x.bid(1200, 99, 1, 0);
        due("5: from minute 5 on", x.works(0, 5, 8), true);
        due("5: it is out of the section in minute 5", x.find(0), 5);
        due("5: minute 4 is closed too", x.works(0, 4, 5), true);
        due("5: in minute 8 it is open again", x.find(0), 13);
        due("5: the other section is open", x.find(1), 5);
        due("5: the last minute", x.works(1, 479, 480), true);
        due("5: all minutes", x.works(1, 0, 480), true);
        due("5: no path", x.find(1), NONE);
        x.give(0);
        for (int i = 4; i < 10; i++) {
            due("5: works number " + i, x.works(1, i, i + 1), true);
        }
        due("5: ten came", x.works(1, 0, 1), false);
        due("5: ten are counted", x.count(4), 10);
    }

    private static void promise6Bid() {
        FreightPaths x = new FreightPaths(4);
        int[] wrongWhat = {-100, LOWEST, HIGHEST, 60100, 70100, 100100, 0, 1100, 3300, 400, 4000, 900, 9000, 120, 190, 101, 109,
            -10, 1};
        for (int what : wrongWhat) {
            due("6: bid(" + what + ", 99, 1, 1)", x.bid(what, 99, 1, 1), NONE);
        }
        int[] wrongWhen = {-1, LOWEST, HIGHEST, 240000, 240, 999, 240240, 239240, 1000000};
        for (int when : wrongWhen) {
            due("6: bid(100, " + when + ", 1, 1)", x.bid(100, when, 1, 1), NONE);
        }
        int[][] wrongWorthRank = {{-1, 0}, {1001, 0}, {0, -1}, {0, 100}, {LOWEST, 0}, {0, HIGHEST}};
        for (int[] row : wrongWorthRank) {
            due("6: bid(100, 99, " + row[0] + ", " + row[1] + ")", x.bid(100, 99, row[0], row[1]), NONE);
        }
        due("6: none came", x.count(1), 0);
        due("6: the first one", x.bid(100, 99, 0, 0), 0);
        due("6: the most of all", x.bid(53010, 239239, 1000, 99), 1);
        due("6: the least minutes", x.bid(53010, 0, 1000, 99), 2);
        due("6: the latest ahead of the earliest is a bid for which no path is found", x.bid(100, 50010, 1, 1), 3);
        due("6: .. none", x.find(3), NONE);
        due("6: from 3 to 0 and slow", x.bid(53010, 2026, 1000, 99), 4);
        due("6: .. it comes in the latest minute", x.find(4), 26);
        for (int i = 5; i < 16; i++) {
            due("6: number " + i, x.bid(100, 99, 1, 1), i);
        }
        due("6: sixteen came", x.bid(100, 99, 1, 1), NONE);
        due("6: sixteen are counted", x.count(1), 16);
    }

    private static void promise7Link() {
        FreightPaths x = new FreightPaths(2);
        for (int i = 0; i < 5; i++) {
            x.bid(100, 99, 1, 0);
        }
        int[][] wrong = {{-1, 0}, {0, -1}, {0, 5}, {5, 0}, {LOWEST, HIGHEST}, {0, 0}, {4, 4}, {5, 5}, {-1, -1}};
        for (int[] row : wrong) {
            due("7: link(" + row[0] + ", " + row[1] + ")", x.link(row[0], row[1]), false);
        }
        due("7: two", x.link(3, 1), true);
        due("7: again", x.link(3, 1), false);
        due("7: the other way", x.link(1, 3), false);
        due("7: the first one with a third one", x.link(3, 0), false);
        due("7: the second one with a third one", x.link(1, 0), false);
        due("7: a third one with the second one", x.link(0, 1), false);
        due("7: a third one with the first one", x.link(0, 3), false);
        due("7: two others", x.link(0, 4), true);
        due("7: one that is left", x.link(2, 2), false);
    }

    private static void promise8Find() {
        FreightPaths x = new FreightPaths(4);
        for (int bid : new int[] {-1, 0, 16, LOWEST, HIGHEST}) {
            due("8: find(" + bid + ") without bids", x.find(bid), NONE);
        }
        x.bid(300, 99, 1, 0);
        due("8: find(0)", x.find(0), 15);
        due("8: nothing is given by that", x.count(2), 0);
        due("8: find(1)", x.find(1), NONE);
        x.bid(300, 15, 1, 0);
        x.bid(300, 14, 1, 0);
        x.bid(300, 7022, 1, 0);
        x.bid(300, 7021, 1, 0);
        due("8: just so", x.find(1), 15);
        due("8: a minute short", x.find(2), NONE);
        due("8: not ahead of the earliest minute", x.find(3), 22);
        due("8: a minute short again", x.find(4), NONE);
        x.give(0);
        due("8: beside others, not beside its own path", x.find(0), 15);
        due("8: behind the one that is given", x.find(1), NONE);

        FreightPaths y = new FreightPaths(4);
        y.works(2, 0, 30);
        y.works(0, 10, 100);
        y.bid(300, 99, 1, 0);
        due("8: it has to stand", y.find(0), 35);
        y.give(0);
        path("8: least at the last one ahead of the end", y, 0, 5, 25, 30, 35);
        y.tracks(1, 0);
        y.give(0);
        path("8: at the last one if not elsewhere", y, 0, 5, 10, 30, 35);
        y.tracks(2, 0);
        due("8: nowhere", y.find(0), NONE);

        FreightPaths z = new FreightPaths(2);
        z.section(0, true, 5, 8);
        z.bid(100, 99, 1, 0);
        z.bid(1000, 99, 1, 0);
        z.bid(110, 99, 1, 0);
        z.give(2);
        due("8: double, the same way", z.find(0), 13);
        due("8: double, the other way", z.find(1), 5);
        promise8FindBesideBreaks();
    }

    private static void promise8FindBesideBreaks() {
        FreightPaths x = lineOnWhichOneMustStand();
        for (int i = 0; i < 3; i++) {
            x.bid(200, 99, 1, i);
        }
        x.bid(1200, 99, 1, 3);
        x.round();
        x.tracks(1, 1);
        due("8: two that are given break rule 3", x.why(1), 3);
        due("8: another one that doesn't stand with them is found", x.find(2), 50);
        due("8: .. and one that begins there", x.find(3), 35);
        x.works(1, 20, 22);
        due("8: one that is given breaks rule 1, another one is found", x.find(2), 50);
    }

    private static void promise9Give() {
        FreightPaths x = new FreightPaths(3);
        for (int bid : new int[] {-1, 0, 16, LOWEST, HIGHEST}) {
            due("9: give(" + bid + ") without bids", x.give(bid), false);
        }
        x.bid(200, 20, 7, 0);
        x.bid(200, 15, 5, 0);
        x.bid(200, 14, 5, 0);
        due("9: give(0)", x.give(0), true);
        path("9: the first one", x, 0, 0, 5, 10);
        due("9: give(1)", x.give(1), true);
        path("9: the second one", x, 1, 5, 10, 15);
        due("9: give(2)", x.give(2), false);
        due("9: its worth", x.count(3), 12);
        due("9: again", x.give(0), true);
        path("9: it finds what it had", x, 0, 0, 5, 10);
        x.works(0, 0, 7);
        due("9: in place of what it had", x.give(0), true);
        path("9: the new path", x, 0, 10, 15, 20);
        due("9: none found", x.give(1), false);
        path("9: what it has stays", x, 1, 5, 10, 15);
        due("9: two are given", x.count(2), 2);
    }

    private static void promise10Drop() {
        FreightPaths x = new FreightPaths(2);
        x.bid(100, 99, 4, 0);
        x.bid(100, 99, 5, 0);
        for (int bid : new int[] {-1, 0, 1, 2, LOWEST, HIGHEST}) {
            due("10: drop(" + bid + ") with nothing given", x.drop(bid), false);
        }
        x.give(0);
        x.give(1);
        due("10: drop(0)", x.drop(0), true);
        due("10: again", x.drop(0), false);
        due("10: it has none", x.path(0, 0), NONE);
        due("10: the other one has", x.path(1, 0), 5);
        due("10: one is given", x.count(2), 1);
        due("10: the minutes are free", x.find(0), 5);
    }

    private static void promise11Round() {
        FreightPaths none = new FreightPaths(2);
        due("11: without bids", none.round(), 0);
        FreightPaths x = new FreightPaths(2);
        x.bid(100, 99, 1, 5);
        x.bid(100, 99, 1, 2);
        x.bid(100, 99, 1, 5);
        x.bid(100, 99, 1, 0);
        x.bid(100, 4, 1, 0);
        x.give(0);
        due("11: four of five", x.round(), 4);
        due("11: lowest rank first", x.path(3, 0), 0);
        due("11: then the next rank", x.path(1, 0), 5);
        due("11: of like ones by number", x.path(0, 0), 10);
        due("11: .. the higher number", x.path(2, 0), 15);
        due("11: none found", x.path(4, 0), NONE);
        due("11: again the same", x.round() == 4 && x.path(0, 0) == 10, true);

        FreightPaths y = new FreightPaths(2);
        y.bid(100, 99, 1, 0);
        y.bid(100, 99, 1, 1);
        y.bid(100, 99, 1, 2);
        y.link(2, 0);
        due("11: linked", y.round(), 3);
        due("11: the first one of two", y.path(0, 0), 0);
        due("11: the other one right behind it", y.path(2, 0), 5);
        due("11: the one between them by rank", y.path(1, 0), 10);

        FreightPaths z = new FreightPaths(2);
        z.bid(100, 99, 1, 0);
        z.bid(100, 7, 1, 1);
        z.bid(100, 99, 1, 2);
        z.bid(100, 99, 1, 2);
        z.link(0, 1);
        z.link(2, 3);
        due("11: both or neither", z.round(), 2);
        due("11: the one for which there was a path", z.path(0, 0), NONE);
        due("11: the one for which there was none", z.path(1, 0), NONE);
        due("11: what they leave is free", z.path(2, 0), 0);
        due("11: give doesn't ask for links", z.give(0), true);
        due("11: drop doesn't either", z.drop(2) && z.path(3, 0) == 5, true);
    }

    private static void promise12Best() {
        FreightPaths x = new FreightPaths(2);
        due("12: without bids", x.best(), NONE);
        x.bid(100, 5, 3, 0);
        x.bid(100, 9, 4, 0);
        x.bid(1000, 10, 1, 0);
        x.round();
        due("12: by rank", x.count(3), 4);
        due("12: the best", x.best(), 5);
        due("12: it stands", x.count(3), 5);
        due("12: the dearer one has its path", x.path(1, 0), 0);
        due("12: the cheaper one has none", x.path(0, 0), NONE);
        due("12: the third one", x.path(2, 1), 5);

        FreightPaths like = new FreightPaths(2);
        for (int i = 0; i < 5; i++) {
            like.bid(100, 99, i, 9 - i);
        }
        due("12: all fit", like.best(), 10);
        for (int i = 0; i < 5; i++) {
            due("12: of like ones the first one by numbers, bid " + i, like.path(i, 0), 5 * i);
        }
        like.bid(100, 99, 1, 0);
        like.drop(0);
        due("12: more than five", like.best(), NONE);
        due("12: nothing changes", like.count(2), 4);

        FreightPaths one = new FreightPaths(2);
        one.bid(100, 99, 77, 0);
        due("12: one bid", one.best(), 77);
        path("12: one bid", one, 0, 0, 5);

        FreightPaths behind = new FreightPaths(2);
        behind.bid(100, 10, 1, 0);
        behind.bid(100, 10, 1, 0);
        behind.bid(100, 10, 50, 0);
        behind.bid(100, 10, 50, 0);
        behind.link(0, 1);
        due("12: linked ones ahead of dearer ones aren't the best", behind.best(), 100);
        due("12: they have none", behind.path(0, 0) == NONE && behind.path(1, 0) == NONE, true);
        path("12: the first one of the dearer ones", behind, 2, 0, 5);

        FreightPaths linked = new FreightPaths(2);
        linked.bid(100, 5, 10, 0);
        linked.bid(100, 99, 2, 0);
        linked.bid(100, 10, 9, 0);
        linked.bid(100, 10, 3, 0);
        linked.link(0, 3);
        due("12: linked ones both", linked.best(), 15);
        path("12: the first one of the linked", linked, 0, 0, 5);
        path("12: the other one right behind", linked, 3, 5, 10);
        path("12: the one that is left", linked, 1, 10, 15);
        due("12: the one that has none", linked.path(2, 0), NONE);

        FreightPaths broken = new FreightPaths(2);
        broken.bid(100, 5, 1000, 0);
        broken.bid(100, 4, 1000, 1);
        broken.bid(100, 5, 0, 2);
        broken.link(0, 1);
        due("12: linked ones neither, and a worth of 0", broken.best(), 0);
        due("12: the worth of 0 has its path", broken.path(2, 0), 0);
        due("12: the others have none", broken.path(0, 0) == NONE && broken.path(1, 0) == NONE, true);
    }

    private static void promise13Path() {
        FreightPaths x = new FreightPaths(5);
        x.bid(13100, 3099, 1, 0);
        due("13: nothing given", x.path(0, 2), NONE);
        x.give(0);
        path("13: down the line", x, 0, NONE, 13, 8, 3, NONE, NONE);
        for (int station : new int[] {-1, 5, 8, LOWEST, HIGHEST}) {
            due("13: path(0, " + station + ")", x.path(0, station), NONE);
        }
        for (int bid : new int[] {-1, 1, 16, LOWEST, HIGHEST}) {
            due("13: path(" + bid + ", 2)", x.path(bid, 2), NONE);
        }
        x.bid(1310, 3099, 1, 0);
        x.give(1);
        path("13: up the line", x, 1, NONE, 13, 21, 29, NONE);
    }

    private static void whyRow(String name, FreightPaths x, int bid, int rule, int minute) {
        due(name + ": why(0)", x.why(0), bid);
        due(name + ": why(1)", x.why(1), rule);
        due(name + ": why(2)", x.why(2), minute);
        for (int what : new int[] {-1, 3, LOWEST, HIGHEST}) {
            due(name + ": why(" + what + ")", x.why(what), NONE);
        }
    }

    private static void promise14Why() {
        FreightPaths x = new FreightPaths(2);
        whyRow("14: without bids", x, NONE, NONE, NONE);
        x.bid(100, 10099, 1, 0);
        x.bid(100, 99, 1, 0);
        x.bid(1000, 99, 1, 0);
        x.give(0);
        x.give(1);
        x.give(2);
        whyRow("14: no break", x, NONE, NONE, NONE);
        x.headway(3);
        whyRow("14: the other way is held too in a single one", x, 0, 2, 10);
        x.drop(2);
        whyRow("14: far enough", x, NONE, NONE, NONE);
        x.headway(7);
        whyRow("14: one is in it while the other one holds it", x, 0, 2, 10);
        x.works(0, 13, 14);
        whyRow("14: rule 1 ahead of rule 2", x, 0, 1, 13);
        x.works(0, 11, 12);
        whyRow("14: the first minute", x, 0, 1, 11);
        x.drop(0);
        whyRow("14: one alone", x, NONE, NONE, NONE);
        x.works(0, 5, 11);
        whyRow("14: it is out of it in minute 5", x, NONE, NONE, NONE);
        x.works(0, 4, 5);
        whyRow("14: by bids", x, 1, 1, 4);

        FreightPaths y = lineOnWhichOneMustStand();
        y.bid(200, 99, 1, 0);
        y.bid(200, 99, 1, 1);
        y.round();
        whyRow("14: tracks enough", y, NONE, NONE, NONE);
        y.tracks(1, 1);
        whyRow("14: both stand", y, 0, 3, 10);
        y.tracks(1, 0);
        whyRow("14: no track", y, 0, 3, 10);
        y.drop(0);
        whyRow("14: the other one stands earlier", y, 1, 3, 5);
        y.tracks(1, 1);
        whyRow("14: one may stand", y, NONE, NONE, NONE);
    }

    private static void promise15Delay() {
        FreightPaths x = new FreightPaths(3);
        x.bid(100, 99, 1, 0);
        int[][] wrong = {{-1, 0, 1}, {1, 0, 1}, {16, 0, 1}, {LOWEST, 0, 1}, {HIGHEST, 0, 1}, {0, -1, 1}, {0, 3, 1}, {0, 8, 1},
            {0, LOWEST, 1}, {0, HIGHEST, 1}, {0, 0, -1}, {0, 0, 61}, {0, 0, LOWEST}, {0, 0, HIGHEST}};
        for (int[] row : wrong) {
            due("15: delay(" + row[0] + ", " + row[1] + ", " + row[2] + ")", x.delay(row[0], row[1], row[2]), false);
        }
        x.give(0);
        due("15: none yet", x.ran(0, 1), 0);
        due("15: ahead of a run", x.delay(0, 0, 60), true);
        due("15: the most", x.ran(0, 1), 60);
        due("15: in place of what it had", x.delay(0, 0, 7), true);
        due("15: it is", x.ran(0, 1), 7);
        due("15: a run doesn't use it up", x.ran(0, 2), 7);
        due("15: at its end", x.delay(0, 1, 9), true);
        due("15: where it doesn't come by", x.delay(0, 2, 9), true);
        due("15: neither matters", x.ran(0, 1), 7);
        due("15: refused", x.delay(0, 0, 61), false);
        due("15: it stays", x.ran(0, 1), 7);
        x.drop(0);
        x.give(0);
        due("15: it stays with another path", x.ran(0, 1), 7);
        due("15: none any more", x.delay(0, 0, 0), true);
        due("15: not late", x.ran(0, 1), 0);
        due("15: the path stays", x.path(0, 0), 0);
    }

    private static void ranRow(String name, FreightPaths x, int bid, int... answers) {
        for (int what = 0; what < answers.length; what++) {
            due(name + ": ran(" + bid + ", " + what + ")", x.ran(bid, what), answers[what]);
        }
        for (int what : new int[] {-1, 6, LOWEST, HIGHEST}) {
            due(name + ": ran(" + bid + ", " + what + ")", x.ran(bid, what), NONE);
        }
    }

    private static void promise16Ran() {
        FreightPaths x = new FreightPaths(3);
        x.headway(2);
        x.bid(200, 99, 1, 1);
        x.bid(10200, 99, 1, 0);
        x.bid(200, 4, 1, 0);
        for (int bid : new int[] {-1, 0, 2, 3, 16, LOWEST, HIGHEST}) {
            ranRow("16: no path", x, bid, NONE, NONE, NONE, NONE, NONE, NONE);
        }
        x.give(0);
        x.give(1);
        ranRow("16: in time", x, 0, 10, 0, 0, 0, 0, 0);
        ranRow("16: in time behind it", x, 1, 16, 0, 0, 0, 0, 0);
        x.delay(0, 1, 3);
        ranRow("16: three minutes late", x, 0, 13, 3, 3, 0, 0, 0);
        ranRow("16: .. and the one behind it", x, 1, 19, 3, 0, 0, 3, 0);
        x.works(1, 8, 12);
        ranRow("16: delay first, then the works, then the other one", x, 0, 23, 13, 3, 4, 6, 0);
        ranRow("16: by rank, in the same minute the lower one leaves first", x, 1, 17, 1, 0, 1, 0, 0);
        x.delay(0, 1, 0);
        x.works(1, 0, 11);
        ranRow("16: only the works hold", x, 0, 23, 13, 0, 7, 6, 0);
        ranRow("16: the lower rank takes the minute", x, 1, 17, 1, 0, 1, 0, 0);

        FreightPaths slack = lineOnWhichOneMustStand();
        slack.bid(200, 99, 1, 0);
        slack.give(0);
        slack.delay(0, 0, 3);
        ranRow("16: what it stands makes up", slack, 0, 25, 0, 3, 0, 0, 3);
        slack.delay(0, 1, 2);
        ranRow("16: .. but not for what is behind it", slack, 0, 27, 2, 5, 0, 0, 3);
        slack.delay(0, 0, 5);
        ranRow("16: the works hold it", slack, 0, 52, 27, 7, 30, 0, 10);

        FreightPaths end = new FreightPaths(2);
        end.bid(100, 99, 1, 0);
        end.give(0);
        end.works(0, 0, 474);
        ranRow("16: it comes in minute 479", end, 0, 479, 474, 0, 474, 0, 0);
        end.works(0, 474, 475);
        ranRow("16: it doesn't come till 479", end, 0, NONE, NONE, NONE, NONE, NONE, NONE);
        promise16RanHolds();
        promise16RanAgain();
    }

    private static void promise16RanAgain() {
        FreightPaths x = new FreightPaths(2);
        x.bid(100, 99, 1, 1);
        x.bid(100, 5099, 9, 0);
        x.give(0);
        x.delay(0, 0, 3);
        ranRow("16: one alone", x, 0, 8, 3, 3, 0, 0, 0);
        x.give(1);
        ranRow("16: another one is given", x, 1, 13, 3, 0, 0, 3, 0);
        x.drop(0);
        ranRow("16: the first one is dropped", x, 1, 10, 0, 0, 0, 0, 0);
        x.round();
        ranRow("16: a round", x, 1, 13, 3, 0, 0, 3, 0);
        x.works(0, 0, 5);
        ranRow("16: works come", x, 0, 15, 10, 3, 2, 5, 0);
        x.round();
        ranRow("16: a round with the works", x, 0, 18, 3, 3, 0, 0, 0);
        x.delay(1, 0, 4);
        ranRow("16: another delay", x, 1, 14, 4, 4, 0, 0, 0);
        x.headway(3);
        ranRow("16: another headway", x, 0, 21, 6, 3, 0, 3, 0);
        x.delay(1, 0, 0);
        x.best();
        ranRow("16: the best", x, 0, 13, 3, 3, 0, 0, 0);
        ranRow("16: the best, the other one", x, 1, 20, 3, 0, 0, 3, 0);
    }

    private static void promise16RanHolds() {
        FreightPaths x = new FreightPaths(2);
        x.bid(100, 99, 1, 1);
        x.bid(1000, 99, 1, 0);
        x.give(0);
        x.give(1);
        x.delay(0, 0, 5);
        ranRow("16: single, the other way goes first by rank", x, 1, 10, 0, 0, 0, 0, 0);
        ranRow("16: single, the late one waits", x, 0, 15, 10, 5, 0, 5, 0);
        x.headway(4);
        ranRow("16: the headway holds it longer", x, 0, 18, 13, 5, 0, 8, 0);
        x.headway(0);
        ranRow("16: no headway", x, 0, 15, 10, 5, 0, 5, 0);
        x.drop(0);
        x.drop(1);
        x.section(0, true, 5, 8);
        x.give(0);
        x.give(1);
        x.headway(9);
        ranRow("16: double, the other way doesn't hold", x, 0, 10, 5, 5, 0, 0, 0);
        ranRow("16: double, the other one", x, 1, 5, 0, 0, 0, 0, 0);
        x.bid(100, 99, 1, 2);
        x.give(2);
        ranRow("16: double, the same way holds", x, 2, 23, 5, 0, 0, 5, 0);

        FreightPaths y = lineOnWhichOneMustStand();
        y.bid(200, 99, 1, 0);
        y.bid(200, 99, 1, 1);
        y.round();
        y.tracks(1, 0);
        ranRow("16: tracks don't matter", y, 0, 25, 0, 0, 0, 0, 0);
        ranRow("16: .. for both", y, 1, 30, 0, 0, 0, 0, 0);
    }

    private static void promise17Blame() {
        FreightPaths x = new FreightPaths(2);
        x.bid(100, 99, 1, 0);
        x.bid(10100, 99, 1, 1);
        x.bid(100, 99, 1, 2);
        x.bid(100, 4, 1, 3);
        x.round();
        x.delay(0, 0, 4);
        x.delay(1, 0, 1);
        int[][] minutes = {{0, 0, 0, 0}, {3, 0, 0, 0}, {0, 4, 0, 0}, {0, 0, 0, 0}};
        for (int bid = 0; bid < 4; bid++) {
            for (int other = 0; other < 4; other++) {
                due("17: blame(" + bid + ", " + other + ")", x.blame(bid, other), minutes[bid][other]);
            }
        }
        int[][] wrong = {{-1, 0}, {0, -1}, {4, 0}, {0, 4}, {16, 16}, {LOWEST, HIGHEST}, {0, HIGHEST}};
        for (int[] row : wrong) {
            due("17: blame(" + row[0] + ", " + row[1] + ")", x.blame(row[0], row[1]), NONE);
        }
        x.drop(0);
        due("17: one without a path holds nobody", x.blame(1, 0), 0);
        due("17: the one behind it is late by that one", x.blame(2, 1), 1);
        x.works(0, 12, 480);
        x.delay(1, 0, 4);
        due("17: it never came", x.ran(2, 0), NONE);
        due("17: but its minutes are put down", x.blame(2, 1), 2);

        FreightPaths y = new FreightPaths(2);
        y.bid(100, 99, 1, 0);
        y.bid(100, 99, 1, 1);
        y.round();
        y.works(0, 0, 478);
        due("17: 479 is the last minute", y.blame(1, 0), 2);
    }

    private static void promise18Balance() {
        FreightPaths x = new FreightPaths(2);
        for (int house = -1; house <= 6; house++) {
            due("18: without bids, balance(" + house + ")", x.balance(house), 0);
        }
        x.bid(100, 99, 1, 0);
        x.bid(30100, 99, 1, 1);
        x.bid(100, 99, 1, 2);
        x.bid(100, 99, 1, 3);
        x.round();
        due("18: in time", x.balance(0), 0);
        x.delay(0, 0, 4);
        due("18: owes for one, is owed for another one", x.balance(0), 0);
        due("18: the other house", x.balance(3), 0);
        due("18: of the same house", x.blame(3, 2), 4);
        x.delay(1, 0, 2);
        due("18: what it is owed is more", x.balance(0), 2);
        due("18: what it owes is more", x.balance(3), -2);
        for (int house : new int[] {-1, 1, 2, 4, 5, 6, LOWEST, HIGHEST}) {
            due("18: balance(" + house + ")", x.balance(house), 0);
        }
        x.delay(0, 0, 0);
        x.delay(1, 0, 5);
        due("18: one alone owes", x.balance(3), -5);
        due("18: one alone is owed", x.balance(0), 5);
    }

    private static void promise19Count() {
        FreightPaths x = new FreightPaths(6);
        x.bid(100, 99, 7, 0);
        x.bid(100, 99, 20, 0);
        x.bid(100, 99, 500, 0);
        x.give(0);
        x.give(2);
        x.works(0, 200, 201);
        x.headway(0);
        int[] answers = {6, 3, 2, 507, 1, 0};
        for (int what = 0; what < answers.length; what++) {
            due("19: count(" + what + ")", x.count(what), answers[what]);
        }
        for (int what : new int[] {-1, 6, LOWEST, HIGHEST}) {
            due("19: count(" + what + ")", x.count(what), NONE);
        }
        due("19: NONE", FreightPaths.NONE, -1);
    }
}
