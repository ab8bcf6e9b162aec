import java.util.List;

/** delay, and what is told of the run: ran, blame and balance. */
final class RanCases {
    private static final int NONE = Desk.NONE;
    private static final int LOWEST = Desk.LOWEST;
    private static final int HIGHEST = Desk.HIGHEST;
    private static final String NO_SUCH_TRAIN = "if (asked == null || !asked.hasPath) { return NONE; } run";

    private RanCases() {
    }

    static List<Case> all() {
        return List.of(
            Case.of("Promise 15", "A train has so many minutes of DELAY at a STATION (0 .. 60;", RanCases::soManyMinutes,
                "MOST_DELAY = 60", "MOST_DELAY = 59", "isWithin(minutes, 0, MOST_DELAY)", "isWithin(minutes, 1, MOST_DELAY)",
                "asked.delays[station] = minutes;", "asked.delays[station] = Math.min(59, minutes);",
                "asked.delays[station] = minutes;", "asked.delays[asked.from] = minutes;"),
            Case.of("Promise 15", "in place of what it had): true;", RanCases::inPlaceOfWhatItHad,
                "asked.delays[station] = minutes;", "asked.delays[station] += minutes;",
                "asked.delays[station] = minutes;", "asked.delays[station] = Math.max(asked.delays[station], minutes);",
                "asked.delays[station] = minutes; run.forget();", "asked.delays[station] = minutes;"),
            Case.of("Promise 15", "false if there is no such BID,", RanCases::delayOfNoBid,
                "if (asked == null || !line.hasStation(station) || !isWithin(minutes, 0, MOST_DELAY)) { return false; }",
                "if (asked == null) { return true; } if (!line.hasStation(station) || !isWithin(minutes, 0, MOST_DELAY)) { return false; }",
                "number >= 0 && number < bids.size() ? bids.get(number)", "!bids.isEmpty() ? bids.get((number & 15) % bids.size())"),
            Case.of("Promise 15", "STATION,", RanCases::delayAtNoStation,
                "asked == null || !line.hasStation(station) ||", "asked == null || station < 0 || station >= MOST_STATIONS ||",
                "asked == null || !line.hasStation(station) ||", "asked == null || asked.stepAtStation(station) == NONE ||",
                "station >= 0 && station < stations;", "station >= 0 && station <= stations;"),
            Case.of("Promise 15", "or number.", RanCases::delayOfNoNumber,
                "MOST_DELAY = 60", "MOST_DELAY = 61", "isWithin(minutes, 0, MOST_DELAY)", "isWithin(minutes, -1, MOST_DELAY)",
                " || !isWithin(minutes, 0, MOST_DELAY)", ""),
            Case.of("Promise 16", "Of a train in the RUN: 0 the minute at which it comes to its end,", RanCases::ranToItsEnd,
                "case 0: return end;", "case 0: return end - 1;", "case 0: return end;", "case 0: return bid.comes[bid.steps()];"),
            Case.of("Promise 16", "1 LATE,", RanCases::ranLate, "case 1: return late;", "case 1: return Math.max(1, late);",
                "case 1: return late;", "case 1: return toSelf[train];"),
            Case.of("Promise 16", "2 put down to itself,", RanCases::ranToItself, "case 2: return toSelf[train];", "case 2: return late;",
                "case 2: return toSelf[train];", "case 2: return toNone[train];", "toSelf[i] = 0;", ""),
            Case.of("Promise 16", "3 to none,", RanCases::ranToNone, "case 3: return toNone[train];", "case 3: return toSelf[train];",
                "toNone[i] = 0;", ""),
            Case.of("Promise 16", "4 to others,", RanCases::ranToOthers, "case 4: return toOthers(train);", "case 4: return late;",
                "minutes += toOther[train * MOST_BIDS + other];", "minutes = Math.max(minutes, toOther[train * MOST_BIDS + other]);",
                "toOther[i] = 0;", ""),
            Case.of("Promise 16", "5 MADE UP", RanCases::ranMadeUp,
                "case 5: return toSelf[train] + toNone[train] + toOthers(train) - late;", "case 5: return late;",
                "case 5: return toSelf[train] + toNone[train] + toOthers(train) - late;", "case 5: return 0;"),
            Case.of("Promise 16", "(all NONE if it doesn't come till 479,", RanCases::ranTillTheLastMinute,
                "end >= RUN_MINUTES", "end > RUN_MINUTES", "end >= RUN_MINUTES", "end >= RUN_MINUTES - 1",
                "stepOf[train] < bid.steps() || ", "",
                "return NONE; } int late", "return what < 2 ? NONE : what == 2 ? toSelf[train] : what == 3 ? toNone[train] : toOthers(train); } int late"),
            Case.of("Promise 16", "or has no PATH).", RanCases::ranWithoutAPath,
                NO_SUCH_TRAIN, "if (asked == null) { return NONE; } if (!asked.hasPath) { return 0; } run",
                NO_SUCH_TRAIN, "if (asked == null) { return NONE; } if (!asked.hasPath && !give(bid)) { return NONE; } run"),
            Case.of("Promise 16", "NONE for others,", RanCases::ranOfOthers,
                "default: return NONE; } } private int toOthers", "default: return 0; } } private int toOthers",
                "case 0: return end;", "case -1: case 0: return end;", "case 5: return toSelf", "case 5: case 6: return toSelf"),
            Case.of("Promise 16", "or if there is none such.", RanCases::ranOfNoBid,
                NO_SUCH_TRAIN, "if (asked == null) { return 0; } if (!asked.hasPath) { return NONE; } run",
                "number >= 0 && number < bids.size() ? bids.get(number)", "!bids.isEmpty() ? bids.get((number & 15) % bids.size())"),
            Case.of("Promise 17", "How many minutes of a train are put down to another one in the RUN;", RanCases::blameOfAnother,
                "run.toOther[bid * MOST_BIDS + other]", "run.toOther[other * MOST_BIDS + bid]",
                "run.toOther[bid * MOST_BIDS + other]", "run.toOther[bid * (MOST_BIDS - 1) + other]",
                "return run.toOther[bid", "return !book.bids.get(bid).hasPath ? NONE : run.toOther[bid",
                "return run.toOther[bid", "return !book.bids.get(other).hasPath ? NONE : run.toOther[bid",
                "return run.toOther[bid", "return run.told(book.bids.get(bid), 0) == NONE ? 0 : run.toOther[bid"),
            Case.of("Promise 17", "NONE if there is none such.", RanCases::blameOfNone,
                "book.at(bid) == null || book.at(other) == null", "book.at(bid) == null || other < 0 || other >= MOST_BIDS",
                "book.at(bid) == null || book.at(other) == null", "book.at(other) == null || bid < 0 || bid >= MOST_BIDS",
                "book.at(bid) == null || book.at(other) == null", "bid * MOST_BIDS + other < 0 || bid * MOST_BIDS + other >= book.size() * MOST_BIDS",
                "book.at(other) == null) { return NONE; }", "book.at(other) == null) { return 0; }"),
            Case.of("Promise 18", "What a HOUSE is owed less what it OWES in the RUN (coins);", RanCases::balanceOfAHouse,
                "coins -= book", "coins += book", "coins += book", "coins -= book",
                "isWithin(house, 0, HOUSES - 1)", "isWithin(house, 1, HOUSES - 1)", "isWithin(house, 0, HOUSES - 1)", "isWithin(house, 0, HOUSES - 2)",
                "for (int train = 0; train < book.size(); train++)", "for (int train = 1; train < book.size(); train++)",
                "for (int train = 0; train < book.size(); train++)", "for (int train = 0; train < book.size() - 1; train++)"),
            Case.of("Promise 18", "0 if there is none such.", RanCases::balanceOfNone,
                "if (!isWithin(house, 0, HOUSES - 1)) { return 0; }", "if (!isWithin(house, 0, HOUSES - 1)) { return NONE; }",
                "return run.coinsOf(house);", "return book.size() == 0 ? NONE : run.coinsOf(house);"));
    }

    private static void soManyMinutes(Check c) {
        FreightPaths x = new FreightPaths(3);
        Desk.bid(x, 0, 2, 0, 239);
        c.due("ahead of a path", x.delay(0, 0, 60), true);
        x.give(0);
        c.due("late", x.ran(0, 1), 60);
        c.due("none", x.delay(0, 0, 0), true);
        c.due("not late", x.ran(0, 1), 0);
        for (int minutes = 0; minutes <= 60; minutes++) {
            c.due("delay(0, 1, " + minutes + ")", x.delay(0, 1, minutes), true);
            c.due("late by " + minutes, x.ran(0, 1), minutes);
        }
        c.due("at both", x.delay(0, 0, 60), true);
        c.due("late by both", x.ran(0, 1), 120);
        c.due("the path stays", x.path(0, 2), 10);
    }

    private static void inPlaceOfWhatItHad(Check c) {
        FreightPaths x = new FreightPaths(2);
        Desk.bid(x, 0, 1, 0, 239);
        x.give(0);
        int[] minutes = {7, 7, 3, 60, 1, 0, 2};
        for (int each : minutes) {
            c.due("delay(0, 0, " + each + ")", x.delay(0, 0, each), true);
            c.due("late", x.ran(0, 1), each);
        }
        x.drop(0);
        x.works(0, 0, 3);
        x.give(0);
        c.due("it stays with another path", x.ran(0, 1), 2);
        x.round();
        c.due("it stays with a round", x.ran(0, 1), 2);
        x.best();
        c.due("it stays with the best", x.ran(0, 1), 2);
    }

    private static void delayOfNoBid(Check c) {
        FreightPaths x = new FreightPaths(2);
        c.due("delay(0, 0, 1) without bids", x.delay(0, 0, 1), false);
        Desk.bid(x, 0, 1, 0, 239);
        x.give(0);
        c.due("delay(1, 0, 1)", x.delay(1, 0, 1), false);
        for (int none : Desk.NO_BIDS) {
            c.due("delay(" + none + ", 0, 1)", x.delay(none, 0, 1), false);
        }
        c.due("not late", x.ran(0, 1), 0);
    }

    private static void delayAtNoStation(Check c) {
        for (int n = 2; n <= 8; n++) {
            FreightPaths x = new FreightPaths(n);
            Desk.bid(x, 0, 1, 0, 239);
            x.give(0);
            for (int station = 0; station < n; station++) {
                c.due(n + " stations: delay at " + station, x.delay(0, station, 1), true);
            }
            c.due(n + " stations: delay at n", x.delay(0, n, 1), false);
            for (int none : Desk.NO_STATIONS) {
                c.due(n + " stations: delay at " + none, x.delay(0, none, 1), false);
            }
            c.due("late only by where it leaves", x.ran(0, 1), 1);
        }
    }

    private static void delayOfNoNumber(Check c) {
        FreightPaths x = new FreightPaths(2);
        Desk.bid(x, 0, 1, 0, 239);
        x.give(0);
        x.delay(0, 0, 5);
        for (int minutes : new int[] {LOWEST, -60, -2, -1, 61, 62, 256 + 5, HIGHEST}) {
            c.due("delay(0, 0, " + minutes + ")", x.delay(0, 0, minutes), false);
            c.due("late as before", x.ran(0, 1), 5);
        }
    }

    private static void ranToItsEnd(Check c) {
        FreightPaths x = new FreightPaths(8);
        Desk.bid(x, 0, 7, 0, 239);
        Desk.slow(x, 7, 6, 231, 239);
        x.give(0);
        x.give(1);
        c.due("in time", x.ran(0, 0), 35);
        c.due("in the last minute of the day", x.ran(1, 0), 239);
        x.delay(0, 3, 60);
        x.delay(1, 7, 1);
        c.due("late", x.ran(0, 0), 95);
        c.due("behind the last minute of the day", x.ran(1, 0), 240);
        x.works(6, 0, 470);
        c.due("as late as can be", x.ran(0, 0), 475);
    }

    private static void ranLate(Check c) {
        FreightPaths x = new FreightPaths(2);
        Desk.bid(x, 0, 1, 0, 239);
        x.give(0);
        c.due("not late", x.ran(0, 1), 0);
        x.works(0, 0, 1);
        c.due("a minute late", x.ran(0, 1), 1);
        x.works(0, 0, 474);
        c.due("as late as can be", x.ran(0, 1), 474);
    }

    private static void ranToItself(Check c) {
        FreightPaths x = Desk.lineWithStanding();
        Desk.bid(x, 0, 2, 0, 239);
        x.give(0);
        c.due("nothing", x.ran(0, 2), 0);
        x.delay(0, 0, 4);
        c.due("at its first station, though it isn't late", x.ran(0, 2), 4);
        x.delay(0, 1, 2);
        c.due("at both stations", x.ran(0, 2), 6);
        x.works(1, 20, 30);
        c.due("also in minutes in which works close the section", x.ran(0, 2), 6);
    }

    private static void ranToNone(Check c) {
        FreightPaths x = new FreightPaths(3);
        Desk.bid(x, 0, 2, 0, 239);
        x.give(0);
        x.delay(0, 0, 4);
        c.due("nothing", x.ran(0, 3), 0);
        x.works(0, 4, 7);
        c.due("works", x.ran(0, 3), 3);
        x.works(1, 12, 14);
        c.due("works in both sections", x.ran(0, 3), 5);
        c.due("asked again", x.ran(0, 3), 5);
    }

    /** Train 2 waits for train 0 in the first section, and for train 1 in the second one. */
    private static void ranToOthers(Check c) {
        FreightPaths x = new FreightPaths(3);
        x.bid(200, 239, 1, 0);
        x.bid(11200, 10239, 1, 1);
        x.bid(20200, 239, 1, 2);
        for (int i = 0; i < 3; i++) {
            x.give(i);
        }
        c.path(x, 2, 10, 15, 20);
        c.due("in time", x.ran(2, 4), 0);
        x.delay(0, 0, 7);
        x.delay(1, 1, 7);
        c.due("put down to train 0", x.blame(2, 0), 2);
        c.due("put down to train 1", x.blame(2, 1), 5);
        c.due("put down to both", x.ran(2, 4), 7);
        c.due("asked again", x.ran(2, 4), 7);
        x.delay(2, 0, 1);
        c.due("without what is put down to itself", x.ran(2, 4), 6);
        x.delay(2, 0, 0);
        x.delay(0, 0, 0);
        x.delay(1, 1, 4);
        c.due("put down to train 1 alone", x.ran(2, 4), 4);
    }

    private static void ranMadeUp(Check c) {
        FreightPaths x = Desk.lineWithStanding();
        Desk.bid(x, 0, 2, 0, 239);
        x.give(0);
        c.due("nothing", x.ran(0, 5), 0);
        x.delay(0, 0, 4);
        c.due("all", x.ran(0, 5), 4);
        x.delay(0, 0, 5);
        c.due("less than all", x.ran(0, 5), 10);
        x.delay(0, 0, 0);
        x.delay(0, 1, 5);
        c.due("none", x.ran(0, 5), 0);
    }

    private static void ranTillTheLastMinute(Check c) {
        FreightPaths x = new FreightPaths(3);
        Desk.bid(x, 0, 2, 0, 239);
        x.give(0);
        x.works(1, 5, 474);
        c.ran(x, 0, 479, 469, 0, 469, 0, 0);
        x.works(1, 474, 475);
        c.ran(x, 0, NONE, NONE, NONE, NONE, NONE, NONE);
        x.works(1, 475, 480);
        c.ran(x, 0, NONE, NONE, NONE, NONE, NONE, NONE);
        FreightPaths y = new FreightPaths(3);
        Desk.bid(y, 0, 2, 0, 239);
        y.give(0);
        y.works(0, 0, 469);
        c.ran(y, 0, 479, 469, 0, 469, 0, 0);
        y.delay(0, 1, 1);
        c.ran(y, 0, NONE, NONE, NONE, NONE, NONE, NONE);
        y.works(0, 469, 480);
        c.ran(y, 0, NONE, NONE, NONE, NONE, NONE, NONE);
    }

    private static void ranWithoutAPath(Check c) {
        FreightPaths x = new FreightPaths(2);
        Desk.bid(x, 0, 1, 0, 239);
        Desk.bid(x, 0, 1, 0, 4);
        c.ran(x, 0, NONE, NONE, NONE, NONE, NONE, NONE);
        x.round();
        c.ran(x, 0, 5, 0, 0, 0, 0, 0);
        c.ran(x, 1, NONE, NONE, NONE, NONE, NONE, NONE);
        x.drop(0);
        c.ran(x, 0, NONE, NONE, NONE, NONE, NONE, NONE);
    }

    private static void ranOfOthers(Check c) {
        FreightPaths x = new FreightPaths(2);
        Desk.bid(x, 0, 1, 0, 239);
        x.give(0);
        c.ran(x, 0, 5, 0, 0, 0, 0, 0);
        for (int what : new int[] {LOWEST, -2, -1, 6, 7, 256, HIGHEST}) {
            c.due("ran(0, " + what + ")", x.ran(0, what), NONE);
        }
    }

    private static void ranOfNoBid(Check c) {
        FreightPaths x = new FreightPaths(2);
        c.ran(x, 0, NONE, NONE, NONE, NONE, NONE, NONE);
        for (int i = 0; i < 16; i++) {
            c.due("not there yet", x.ran(i, 1), NONE);
            Desk.bid(x, 0, 1, 0, 239);
        }
        x.round();
        c.ran(x, 15, 80, 0, 0, 0, 0, 0);
        for (int none : Desk.NO_BIDS) {
            c.ran(x, none, NONE, NONE, NONE, NONE, NONE, NONE);
        }
    }

    private static void blameOfAnother(Check c) {
        FreightPaths x = new FreightPaths(2);
        for (int i = 0; i < 16; i++) {
            Desk.ranked(x, i % 6, 0, 15 - i);
        }
        x.round();
        x.delay(15, 0, 4);
        for (int i = 0; i < 16; i++) {
            for (int j = 0; j < 16; j++) {
                if (i != j) {
                    c.due("blame(" + i + ", " + j + ")", x.blame(i, j), j == i + 1 ? 4 : 0);
                }
            }
        }
        x.drop(14);
        c.due("of one without a path", x.blame(14, 15), 0);
        c.due("by one without a path", x.blame(13, 14), 0);
        x.delay(15, 0, 7);
        c.due("the next one behind it", x.blame(13, 15), 2);
        x.works(0, 12, 480);
        c.due("it comes never", x.ran(13, 0), NONE);
        c.due("but what was put down was", x.blame(13, 15), 2);
    }

    private static void blameOfNone(Check c) {
        FreightPaths x = new FreightPaths(2);
        c.due("blame(0, 0) without bids", x.blame(0, 0), NONE);
        for (int i = 0; i < 3; i++) {
            Desk.ranked(x, i, 0, i);
        }
        x.round();
        x.delay(0, 0, 4);
        c.due("blame(1, 0)", x.blame(1, 0), 4);
        for (int none : Desk.NO_BIDS) {
            c.due("blame(0, " + none + ")", x.blame(0, none), NONE);
            c.due("blame(1, " + none + ")", x.blame(1, none), NONE);
            c.due("blame(2, " + none + ")", x.blame(2, none), NONE);
            c.due("blame(" + none + ", 0)", x.blame(none, 0), NONE);
            c.due("blame(" + none + ", " + none + ")", x.blame(none, none), NONE);
        }
        c.due("blame(0, 3)", x.blame(0, 3), NONE);
        c.due("blame(3, 0)", x.blame(3, 0), NONE);
    }

    private static void balanceOfAHouse(Check c) {
        for (int late = 0; late <= 5; late++) {
            FreightPaths x = new FreightPaths(2);
            int other = (late + 1) % 6;
            Desk.ranked(x, late, 0, 0);
            Desk.ranked(x, other, 0, 1);
            x.round();
            x.delay(0, 0, 3);
            for (int house = 0; house <= 5; house++) {
                c.due("by house " + late + ": balance(" + house + ")", x.balance(house), house == late ? -3 : house == other ? 3 : 0);
            }
            x.delay(0, 0, 0);
            c.due("in time", x.balance(late), 0);
        }
        FreightPaths y = new FreightPaths(2);
        for (int i = 0; i < 3; i++) {
            Desk.ranked(y, i == 1 ? 1 : 0, 0, i);
        }
        y.round();
        y.delay(0, 0, 4);
        y.delay(1, 0, 1);
        c.due("owed and owing", y.balance(0), 1);
        c.due("the other one", y.balance(1), -1);
        FreightPaths z = new FreightPaths(2);
        Desk.ranked(z, 2, 0, 1);
        Desk.ranked(z, 4, 0, 0);
        z.round();
        z.delay(1, 0, 2);
        c.due("the first bid's house is owed", z.balance(2), 2);
        c.due("the last bid's house owes", z.balance(4), -2);
    }

    private static void balanceOfNone(Check c) {
        FreightPaths x = new FreightPaths(2);
        c.due("without bids", x.balance(0), 0);
        Desk.ranked(x, 0, 0, 0);
        Desk.ranked(x, 5, 0, 1);
        x.round();
        x.delay(0, 0, 3);
        c.due("balance(0)", x.balance(0), -3);
        for (int house : new int[] {LOWEST, -2, -1, 6, 7, 16, 256, HIGHEST}) {
            c.due("balance(" + house + ")", x.balance(house), 0);
        }
    }
}
