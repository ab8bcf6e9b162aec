import java.util.List;

/** find, give, drop and path. */
final class GivenCases {
    private static final int NONE = Desk.NONE;

    private GivenCases() {
    }

    static List<Case> all() {
        return List.of(
            Case.of("Promise 8", "The minute at which the PATH that would be FOUND for a BID now comes to its end;", GivenCases::findNow,
                "NONE : search.endFor(asked);", "NONE : give(bid) ? path(bid, asked.to) : NONE;",
                "NONE : search.endFor(asked);", "NONE : asked.hasPath ? path(bid, asked.to) : search.endFor(asked);",
                "traceBack(bid, minute); return minute;", "traceBack(bid, minute); return leaves[0];"),
            Case.of("Promise 8", "NONE if there is none,", GivenCases::findNone,
                "return NONE; } private void clearComings", "return bid.latest; } private void clearComings"),
            Case.of("Promise 8", "or no such BID.", GivenCases::findNoSuchBid,
                "return asked == null ? NONE : search", "return asked == null ? 0 : search",
                "number >= 0 && number < bids.size()", "number < bids.size()",
                "number >= 0 && number < bids.size()", "number >= 0 && number <= bids.size()",
                "number >= 0 && number < bids.size() ? bids.get(number)", "!bids.isEmpty() ? bids.get((number & 15) % bids.size())"),
            Case.of("Promise 9", "The PATH that is FOUND for a BID is GIVEN to it", GivenCases::giveWhatIsFound,
                "hasPath = true;", "", "leaves[step] = leaving[step];", "leaves[step] = earliest;",
                "asked.takePath(search.leaves, search.comes); run.forget(); return true;", "return true;"),
            Case.of("Promise 9", "(in place of what it has): true;", GivenCases::giveInPlace,
                "asked == null || search.endFor(asked) == NONE", "asked == null || asked.hasPath || search.endFor(asked) == NONE",
                "asked.takePath(search.leaves, search.comes); run.forget();", "asked.takePath(search.leaves, search.comes);",
                "asked.takePath(search.leaves, search.comes); run.forget();",
                "if (!asked.hasPath) { asked.takePath(search.leaves, search.comes); } run.forget();"),
            Case.of("Promise 9", "false (and what it has stays) if there is none.", GivenCases::giveNone,
                "if (asked == null || search.endFor(asked) == NONE) { return false; }",
                "if (asked == null) { return false; } asked.hasPath = false; if (search.endFor(asked) == NONE) { return false; }",
                "if (asked == null || search.endFor(asked) == NONE) { return false; }",
                "if (asked == null) { return false; } search.endFor(asked);",
                "if (asked == null || search.endFor(asked) == NONE) { return false; }",
                "if (asked == null || search.endFor(asked) == NONE) { return asked != null && asked.hasPath; }"),
            Case.of("Promise 10", "A BID has no PATH any more: true;", GivenCases::dropIt,
                "asked.hasPath = false;", "", "asked.hasPath = false;", "book.dropAll();"),
            Case.of("Promise 10", "false if there is no such BID,", GivenCases::dropNoSuchBid,
                "if (asked == null || !asked.hasPath) { return false; }", "if (asked == null) { return true; } if (!asked.hasPath) { return false; }",
                "number >= 0 && number < bids.size() ? bids.get(number)", "!bids.isEmpty() ? bids.get((number & 15) % bids.size())"),
            Case.of("Promise 10", "or it has none.", GivenCases::dropNone,
                "if (asked == null || !asked.hasPath) { return false; }", "if (asked == null) { return false; }"),
            Case.of("Promise 13", "The minute at which a BID's PATH leaves a STATION", GivenCases::leavesAStation,
                "asked.comes[step] : asked.leaves[step]", "asked.comes[step] : asked.comes[step]",
                "station - from : NONE; } return", "to - station : NONE; } return",
                "from - station : NONE; }", "station - to : NONE; }"),
            Case.of("Promise 13", "(of its last one: comes there);", GivenCases::comesToItsLast,
                "step == asked.steps() ?", "step > asked.steps() ?",
                "station >= from && station <= to ?", "station >= from && station < to ?",
                "station >= to && station <= from ?", "station > to && station <= from ?"),
            Case.of("Promise 13", "NONE if it has none,", GivenCases::pathOfNone,
                "if (asked == null || !asked.hasPath) { return NONE; } int step", "if (asked == null) { return NONE; } int step",
                "if (asked == null || !asked.hasPath) { return NONE; } int step", "if (asked == null || !asked.hasPath) { return 0; } int step"),
            Case.of("Promise 13", "or doesn't come by.", GivenCases::doesntComeBy,
                "station >= from && station <= to ?", "station >= from - 2 && station <= to ?",
                "station >= from && station <= to ?", "station >= from && station <= to + 1 ?",
                "station >= to && station <= from ?", "station >= to - 1 && station <= from ?",
                "station >= to && station <= from ?", "station >= to && station <= from + 2 ?",
                "if (step == NONE) { return NONE; }", "if (step == NONE) { return 0; }"));
    }

    private static void findNow(Check c) {
        FreightPaths x = new FreightPaths(3);
        Desk.bid(x, 0, 2, 0, 239);
        Desk.bid(x, 0, 2, 0, 239);
        c.due("at first", x.find(0), 10);
        c.due("again", x.find(0), 10);
        c.due("nothing is given by that", x.count(2), 0);
        c.due("it has no path by that", x.path(0, 0), NONE);
        x.give(1);
        c.due("when another one is given", x.find(0), 15);
        x.headway(3);
        c.due("with another headway", x.find(0), 17);
        x.drop(1);
        c.due("when that one is dropped", x.find(0), 10);
        x.section(0, false, 9, 9);
        c.due("with another section", x.find(0), 14);
        x.give(0);
        x.works(0, 3, 4);
        c.due("not what it has, but what it would have now", x.find(0), 18);
        c.due("what it has stays", x.path(0, 2), 14);
        x.give(0);
        c.due("it has that then", x.path(0, 2), 18);
    }

    private static void findNone(Check c) {
        FreightPaths x = new FreightPaths(3);
        Desk.bid(x, 0, 2, 0, 9);
        Desk.bid(x, 0, 2, 0, 10);
        Desk.bid(x, 0, 2, 0, 14);
        Desk.bid(x, 2, 0, 100, 50);
        Desk.bid(x, 2, 0, 0, 239);
        c.due("a minute short", x.find(0), NONE);
        c.due("just so", x.find(1), 10);
        c.due("the latest minute is ahead of the earliest one", x.find(3), NONE);
        x.give(1);
        c.due("a minute short behind another one", x.find(2), NONE);
        x.works(1, 0, 239);
        c.due("closed but for the last minute", x.find(4), NONE);
        x.works(1, 239, 240);
        c.due("closed all day", x.find(4), NONE);
        c.due("what it has doesn't matter", x.find(1), NONE);
    }

    private static void findNoSuchBid(Check c) {
        FreightPaths x = new FreightPaths(2);
        c.due("find(0) without bids", x.find(0), NONE);
        for (int i = 0; i < 16; i++) {
            c.due("the next one isn't there yet", x.find(i), NONE);
            Desk.bid(x, 0, 1, 0, 239);
            c.due("it is now", x.find(i), 5);
        }
        for (int none : Desk.NO_BIDS) {
            c.due("find(" + none + ")", x.find(none), NONE);
        }
    }

    private static void giveWhatIsFound(Check c) {
        FreightPaths x = new FreightPaths(3);
        Desk.bid(x, 0, 2, 4, 239);
        Desk.bid(x, 0, 2, 0, 239);
        Desk.bid(x, 2, 0, 0, 239);
        for (int i = 0; i < 3; i++) {
            int end = x.find(i);
            c.due("give(" + i + ")", x.give(i), true);
            c.due("the path ends as found", x.path(i, i == 2 ? 0 : 2), end);
            c.due("so many are given", x.count(2), i + 1);
        }
        c.path(x, 0, 4, 9, 14);
        c.path(x, 1, 9, 14, 19);
        c.path(x, 2, 19, 14, 4);
    }

    private static void giveInPlace(Check c) {
        FreightPaths x = new FreightPaths(3);
        Desk.bid(x, 0, 2, 0, 239);
        Desk.bid(x, 0, 2, 0, 239);
        x.give(0);
        c.due("give again", x.give(0), true);
        c.path(x, 0, 0, 5, 10);
        x.works(0, 2, 3);
        c.due("how it runs", x.ran(0, 0), 10);
        c.due("give again when it can't stay so", x.give(0), true);
        c.path(x, 0, 3, 8, 13);
        c.due("how it runs then", x.ran(0, 0), 13);
        c.due("one is given", x.count(2), 1);
        c.due("its worth counts once", x.count(3), 1);
        c.due("it holds only what it has now", x.find(1), 18);
    }

    private static void giveNone(Check c) {
        FreightPaths x = new FreightPaths(2);
        c.due("give(0) without bids", x.give(0), false);
        Desk.bid(x, 0, 1, 0, 4);
        c.due("no path", x.give(0), false);
        c.due("none is given", x.count(2), 0);
        Desk.bid(x, 0, 1, 0, 7);
        c.due("a path", x.give(1), true);
        x.works(0, 3, 4);
        c.due("no path any more", x.give(1), false);
        c.path(x, 1, 0, 5);
        c.due("one is given", x.count(2), 1);
        c.due("it runs still", x.ran(1, 0), 5);
        for (int none : Desk.NO_BIDS) {
            c.due("give(" + none + ")", x.give(none), false);
        }
        c.due("give(2)", x.give(2), false);
    }

    private static void dropIt(Check c) {
        FreightPaths x = new FreightPaths(2);
        Desk.bid(x, 0, 1, 0, 239);
        Desk.bid(x, 0, 1, 0, 239);
        Desk.bid(x, 0, 1, 0, 239);
        x.round();
        c.due("it runs", x.ran(1, 0), 10);
        c.due("drop(1)", x.drop(1), true);
        c.path(x, 1, NONE, NONE);
        c.due("it doesn't run", x.ran(1, 0), NONE);
        c.path(x, 0, 0, 5);
        c.path(x, 2, 10, 15);
        c.due("two are given", x.count(2), 2);
        c.due("its minutes are free", x.find(1), 10);
        c.due("it may be given again", x.give(1), true);
        c.due("drop(2)", x.drop(2), true);
        c.due("drop(0)", x.drop(0), true);
        c.due("one is given", x.count(2), 1);
    }

    private static void dropNoSuchBid(Check c) {
        FreightPaths x = new FreightPaths(2);
        c.due("drop(0) without bids", x.drop(0), false);
        Desk.bid(x, 0, 1, 0, 239);
        x.give(0);
        c.due("drop(1)", x.drop(1), false);
        for (int none : Desk.NO_BIDS) {
            c.due("drop(" + none + ")", x.drop(none), false);
        }
        c.due("one is given", x.count(2), 1);
    }

    private static void dropNone(Check c) {
        FreightPaths x = new FreightPaths(2);
        Desk.bid(x, 0, 1, 0, 4);
        Desk.bid(x, 0, 1, 0, 239);
        c.due("never given", x.drop(1), false);
        x.round();
        c.due("none found", x.drop(0), false);
        c.due("given", x.drop(1), true);
        c.due("dropped already", x.drop(1), false);
        x.round();
        c.due("given again", x.drop(1), true);
    }

    private static void leavesAStation(Check c) {
        FreightPaths x = new FreightPaths(5);
        x.works(2, 0, 40);
        x.works(1, 10, 60);
        Desk.bid(x, 1, 4, 0, 239);
        Desk.bid(x, 3, 0, 50, 239);
        x.give(0);
        c.path(x, 0, NONE, 5, 40, 45, 50);
        x.give(1);
        c.path(x, 1, 70, 65, 60, 55, NONE);
    }

    private static void comesToItsLast(Check c) {
        FreightPaths x = new FreightPaths(8);
        for (int to = 1; to < 8; to++) {
            int up = Desk.bid(x, 0, to, 0, 239);
            int down = Desk.slow(x, 7, 7 - to, 0, 239);
            x.give(up);
            c.due("up to " + to, x.path(up, to), 5 * to);
            x.drop(up);
            x.give(down);
            c.due("down to " + (7 - to), x.path(down, 7 - to), 8 * to);
            x.drop(down);
        }
    }

    private static void pathOfNone(Check c) {
        FreightPaths x = new FreightPaths(2);
        c.path(x, 0, NONE, NONE);
        Desk.bid(x, 0, 1, 0, 239);
        c.path(x, 0, NONE, NONE);
        x.give(0);
        c.path(x, 0, 0, 5);
        x.drop(0);
        c.path(x, 0, NONE, NONE);
        x.give(0);
        for (int none : Desk.NO_BIDS) {
            c.due("path(" + none + ", 0)", x.path(none, 0), NONE);
        }
        c.due("path(1, 0)", x.path(1, 0), NONE);
    }

    private static void doesntComeBy(Check c) {
        FreightPaths x = new FreightPaths(7);
        Desk.bid(x, 2, 4, 0, 239);
        Desk.bid(x, 4, 2, 20, 239);
        x.give(0);
        x.give(1);
        c.path(x, 0, NONE, NONE, 0, 5, 10, NONE, NONE, NONE, NONE);
        c.path(x, 1, NONE, NONE, 30, 25, 20, NONE, NONE, NONE, NONE);
        for (int none : Desk.NO_STATIONS) {
            c.due("path(0, " + none + ")", x.path(0, none), NONE);
            c.due("path(1, " + none + ")", x.path(1, none), NONE);
        }
        c.due("a station behind the last one", x.path(0, 7), NONE);
    }
}
