import java.util.List;

/** What a path is, which rules it keeps, and which one is found. */
final class PathCases {
    private static final int NONE = Desk.NONE;
    private static final String LATEST_COMING =
        "while (step > 0 && coming > bid.earliest && !canCome[step * DAY_MINUTES + coming]) { coming--; }";

    private PathCases() {
    }

    /** In place of the latest coming to a step the first one, but for some steps. */
    private static String firstComing(String steps) {
        return "while (!(" + steps + ") && step > 0 && coming > bid.earliest && !canCome[step * DAY_MINUTES + coming]) { coming--; }"
            + " for (int m = bid.earliest; step > 0 && " + steps + " && m < leaving; m++) {"
            + " if (canCome[step * DAY_MINUTES + m]) { coming = m; break; } }";
    }

    static List<Case> all() {
        return List.of(
            Case.of("Terms 1", "A PATH of a BID: the minutes at which it leaves each STATION from the first one on, but for the last one;",
                PathCases::leavesEachStation,
                "step == asked.steps() ? asked.comes[step] : asked.leaves[step]", "asked.leaves[step]",
                "step == asked.steps() ? asked.comes[step] : asked.leaves[step]", "asked.comes[step]"),
            Case.of("Terms 1", "it comes to the next one as many minutes later as the SECTION is long for it,", PathCases::comesLater,
                "int section = bid.sectionAt(step); return bid.kind", "int section = step; return bid.kind",
                "int leaving = coming - line.lengthOf(bid, step);", "int leaving = coming - 5;"),
            Case.of("Terms 1", "and stands there till it leaves (from the minute of coming", PathCases::standsFromComing,
                "int minute = other.comes[otherStep]; minute <", "int minute = other.comes[otherStep] + 1; minute <",
                "for (int m = bid.comes[step]; m < bid.leaves[step]; m++)", "for (int m = bid.comes[step] + 1; m < bid.leaves[step]; m++)",
                "m >= bid.comes[step] && m < bid.leaves[step]", "m > bid.comes[step] && m < bid.leaves[step]"),
            Case.of("Terms 1", "to the one ahead of leaving;", PathCases::standsTillLeaving,
                "minute < other.leaves[otherStep]; minute++", "minute <= other.leaves[otherStep]; minute++",
                "minute < other.leaves[otherStep]; minute++", "minute < other.leaves[otherStep] - 1; minute++",
                "m >= bid.comes[step] && m < bid.leaves[step]", "m >= bid.comes[step] && m <= bid.leaves[step]",
                "for (int m = bid.comes[step]; m < bid.leaves[step]; m++)", "for (int m = bid.comes[step]; m <= bid.leaves[step]; m++)",
                "for (int m = bid.comes[step]; m < bid.leaves[step]; m++)", "for (int m = bid.comes[step]; m < bid.leaves[step] - 1; m++)"),
            Case.of("Terms 1", "not at its first and last STATION).", PathCases::standsNotAtItsEnds,
                "if (step > 0 && standing[minute] >= room)", "if (standing[minute] >= room)",
                "otherStep > 0 && otherStep < other.steps()", "otherStep >= 0 && otherStep < other.steps()",
                "otherStep > 0 && otherStep < other.steps()", "otherStep > 0 && otherStep <= other.steps()",
                "if (bid.hasPath && step > 0 && step < bid.steps()", "if (bid.hasPath && step >= 0 && step < bid.steps()",
                "if (bid.hasPath && step > 0 && step < bid.steps()", "if (bid.hasPath && step > 0 && step <= bid.steps()",
                "for (int step = 1; step < bid.steps(); step++) { int station", "for (int step = 1; step <= bid.steps(); step++) { int station",
                "for (int step = 1; step < bid.steps(); step++) { int station", "for (int step = 0; step < bid.steps(); step++) { int station"),
            Case.of("Terms 1", "It leaves not ahead of the earliest minute,", PathCases::notAheadOfTheEarliest,
                "for (int minute = bid.earliest; minute + length", "for (int minute = bid.earliest - 1; minute + length",
                "for (int minute = bid.earliest; minute + length", "for (int minute = bid.earliest + 1; minute + length"),
            Case.of("Terms 1", "and comes to its end not behind the latest one.", PathCases::notBehindTheLatest,
                "minute + length <= bid.latest", "minute + length < bid.latest",
                "this.latest = when % 1000;", "this.latest = when % 1000 + 1;"),
            Case.of("Terms 1", "It is IN a SECTION from its leaving on, for its MINUTES.", PathCases::inASection,
                "other.comes[otherStep + 1] - 1 + behind", "other.comes[otherStep + 1] + behind",
                "other.comes[otherStep + 1] - 1 + behind", "other.comes[otherStep + 1] - 2 + behind",
                "block(lastToGoAhead + 1,", "block(lastToGoAhead,", "block(lastToGoAhead + 1,", "block(lastToGoAhead + 2,",
                "m < bid.comes[step + 1]; m++) { if (line.isClosed", "m <= bid.comes[step + 1]; m++) { if (line.isClosed",
                "m < bid.comes[step + 1]; m++) { if (line.isClosed", "m < bid.comes[step + 1] - 1; m++) { if (line.isClosed",
                "for (int m = bid.leaves[step]; m < bid.comes[step + 1]; m++) { if (line.isClosed",
                "for (int m = bid.leaves[step] + 1; m < bid.comes[step + 1]; m++) { if (line.isClosed"),
            Case.of("Terms 1", "RULES: 1 it isn't IN a SECTION in a minute in which WORKS close it.", PathCases::ruleOfWorks,
                "blockByWorks(bid, step);", "", "line.worksFrom[i] - length + 1", "line.worksFrom[i]",
                "if (line.worksSection[i] == section) {", "if (i == 0 && line.worksSection[i] == section) {"),
            Case.of("Terms 1", "2 it isn't IN a SECTION in a minute in which another one HOLDS it: that is each minute in which that one is IN it,",
                PathCases::ruleOfHolding,
                "blockByOthers(bid, step);", "", "other.comes[otherStep + 1] - 1 + behind", "other.leaves[otherStep] + behind",
                "int lastToGoAhead = other.leaves[otherStep] - length - behind;", "int lastToGoAhead = other.leaves[otherStep] - 5;",
                "section >= from && section < to ?", "section >= from && section <= to ?",
                "section >= to && section < from ?", "section >= to - 1 && section < from ?",
                "section >= from && section < to ?", "section > from && section < to ?",
                "section >= to && section < from ?", "section > to && section < from ?"),
            Case.of("Terms 1", "and the HEADWAY less 1 behind these (none with HEADWAY 0);", PathCases::ruleOfHeadway,
                "Math.max(0, headwayMinutes - 1)", "headwayMinutes - 1", "Math.max(0, headwayMinutes - 1)", "headwayMinutes",
                "Math.max(0, headwayMinutes - 1)", "Math.max(0, headwayMinutes - 2)",
                "other.leaves[otherStep] - length - behind;", "other.leaves[otherStep] - length;",
                "other.comes[otherStep + 1] - 1 + behind", "other.comes[otherStep + 1] - 1"),
            Case.of("Terms 1", "in a DOUBLE one only of those that go the same way.", PathCases::ruleInDoubleOnes,
                "!isDouble[section] || one.way() == other.way()", "true", "!isDouble[section] || one.way() == other.way()", "!isDouble[section]",
                "!isDouble[section] || one.way() == other.way()", "one.way() == other.way()"),
            Case.of("Terms 1", "3 in no minute more trains stand at a STATION than there are TRACKS.", PathCases::ruleOfTracks,
                "standing[minute] >= room", "standing[minute] > room", "standing[minute] >= room", "standing[minute] >= room - 1",
                "if (step > 0 && standing[minute] >= room)", "if (step > 1 && standing[minute] >= room)",
                "standing[minute]++;", "standing[minute] = 1;"),
            Case.of("Terms 2", "FOUND for a BID is, of all its PATHS that keep all RULES beside those that are GIVEN (to other BIDS),",
                PathCases::besideOthers,
                "if (other != bid && other.hasPath && otherStep != NONE", "if (other.hasPath && otherStep != NONE",
                "if (other != bid && other.hasPath && otherStep != NONE", "if (other != bid && otherStep != NONE",
                "if (other != bid && other.hasPath && otherStep > 0", "if (other.hasPath && otherStep > 0",
                "if (other != bid && other.hasPath && otherStep > 0", "if (other != bid && otherStep > 0"),
            Case.of("Terms 2", "one that comes to its end first;", PathCases::endsFirst,
                "for (int minute = bid.earliest; minute <= bid.latest; minute++) { if (canCome",
                "for (int minute = bid.latest; minute >= bid.earliest; minute--) { if (canCome",
                "isThere = isThere || step > 0 && canCome[here + minute];", "isThere = step == 0 || canCome[here + minute];"),
            Case.of("Terms 2", "of these that which stands least at the last STATION ahead of its end;", PathCases::standsLeastAtTheLast,
                LATEST_COMING, firstComing("step == bid.steps() - 1")),
            Case.of("Terms 2", "of these that which stands least at the one ahead of that, and so on.", PathCases::standsLeastAhead,
                LATEST_COMING, firstComing("step == bid.steps() - 2"), LATEST_COMING, firstComing("step == bid.steps() - 3"),
                LATEST_COMING, firstComing("step == 1")));
    }

    private static void leavesEachStation(Check c) {
        FreightPaths x = new FreightPaths(8);
        Desk.bid(x, 0, 7, 3, 239);
        Desk.bid(x, 7, 0, 0, 239);
        Desk.slow(x, 2, 3, 100, 239);
        Desk.bid(x, 5, 3, 150, 239);
        x.give(0);
        c.path(x, 0, 3, 8, 13, 18, 23, 28, 33, 38);
        x.drop(0);
        x.give(1);
        c.path(x, 1, 35, 30, 25, 20, 15, 10, 5, 0);
        x.give(2);
        c.path(x, 2, NONE, NONE, 100, 108, NONE, NONE, NONE, NONE);
        x.give(3);
        c.path(x, 3, NONE, NONE, NONE, 160, 155, 150, NONE, NONE);
    }

    private static void comesLater(Check c) {
        FreightPaths x = new FreightPaths(4);
        x.section(0, false, 3, 4);
        x.section(1, true, 7, 1);
        x.section(2, false, 30, 30);
        Desk.bid(x, 0, 3, 0, 239);
        Desk.slow(x, 0, 3, 0, 239);
        Desk.bid(x, 3, 0, 0, 239);
        Desk.slow(x, 3, 1, 0, 239);
        int[][] paths = {{0, 3, 10, 40}, {0, 4, 5, 35}, {40, 37, 30, 0}, {NONE, 31, 30, 0}};
        for (int i = 0; i < paths.length; i++) {
            x.give(i);
            c.path(x, i, paths[i]);
            x.drop(i);
        }
    }

    private static void standsFromComing(Check c) {
        FreightPaths x = Desk.lineWithOneStanding(16);
        c.path(x, 0, 10, 21, 26);
        x.tracks(1, 0);
        c.why(x, 0, 3, 15);
        x.tracks(1, 1);
        Desk.bid(x, 0, 2, 0, 239);
        c.due("it can't stand in minute 15, in which another one comes", x.find(3), 31);
        x.tracks(1, 2);
        c.due("two can", x.give(3), true);
        c.path(x, 3, 5, 16, 21);
        x.tracks(1, 1);
        c.why(x, 0, 3, 15);
    }

    private static void standsTillLeaving(Check c) {
        FreightPaths x = Desk.lineWithOneStanding(15);
        c.path(x, 0, 10, 20, 25);
        Desk.bid(x, 0, 2, 0, 239);
        c.due("it may leave in minute 15, in which another one comes", x.give(3), true);
        c.path(x, 3, 5, 15, 20);
        c.why(x, NONE, NONE, NONE);
        x.drop(3);
        x.works(0, 20, 60);
        Desk.bid(x, 0, 2, 15, 239);
        c.due("it may come in minute 20, in which another one leaves", x.give(4), true);
        c.path(x, 4, 15, 25, 30);
        c.why(x, NONE, NONE, NONE);

        FreightPaths y = Desk.lineWithOneStanding(16);
        y.works(0, 20, 60);
        c.due("it can't stand in minute 20, the last one of another one", y.find(Desk.bid(y, 0, 2, 15, 239)), 70);

        FreightPaths z = new FreightPaths(3);
        Desk.bid(z, 0, 2, 0, 239);
        z.give(0);
        z.tracks(1, 0);
        c.why(z, NONE, NONE, NONE);
        z.drop(0);
        z.tracks(1, 2);
        z.works(1, 0, 6);
        z.works(0, 5, 200);
        z.give(0);
        c.path(z, 0, 0, 6, 11);
        z.tracks(1, 0);
        c.why(z, 0, 3, 5);
        onePassesWhereOthersStand(c);
    }

    private static void onePassesWhereOthersStand(Check c) {
        FreightPaths x = new FreightPaths(3);
        Desk.bid(x, 0, 2, 10, 239);
        x.give(0);
        c.path(x, 0, 10, 15, 20);
        x.works(1, 0, 15);
        x.works(1, 20, 60);
        x.works(0, 20, 200);
        x.tracks(1, 3);
        int[][] paths = {{15, 60, 65}, {5, 65, 70}, {0, 70, 75}};
        for (int i = 0; i < 3; i++) {
            Desk.bid(x, 0, 2, 0, 239);
            x.give(i + 1);
            c.path(x, i + 1, paths[i]);
        }
        x.tracks(1, 1);
        c.why(x, 1, 3, 20);
        x.tracks(1, 0);
        c.why(x, 1, 3, 20);
    }

    private static void standsNotAtItsEnds(Check c) {
        FreightPaths x = new FreightPaths(3);
        for (int station = 0; station < 3; station++) {
            x.tracks(station, 0);
        }
        x.works(0, 0, 20);
        Desk.bid(x, 0, 2, 0, 239);
        Desk.bid(x, 0, 1, 0, 239);
        Desk.bid(x, 1, 2, 0, 239);
        c.due("it may wait at its first station", x.give(0), true);
        c.path(x, 0, 20, 25, 30);
        c.due("another one may end where none can stand", x.give(1), true);
        c.path(x, 1, 25, 30);
        c.due("another one may begin there", x.give(2), true);
        c.why(x, NONE, NONE, NONE);

        FreightPaths y = Desk.lineWithStanding();
        y.tracks(1, 1);
        Desk.bid(y, 1, 2, 0, 239);
        Desk.bid(y, 0, 1, 0, 239);
        Desk.bid(y, 0, 2, 0, 239);
        y.give(0);
        y.give(1);
        c.path(y, 0, NONE, 20, 25);
        c.path(y, 1, 0, 5, NONE);
        c.due("neither of them takes the track", y.give(2), true);
        c.path(y, 2, 5, 25, 30);
        c.why(y, NONE, NONE, NONE);
        y.tracks(1, 0);
        c.why(y, 2, 3, 10);

        FreightPaths z = Desk.lineWithStanding();
        z.tracks(1, 1);
        Desk.bid(z, 0, 1, 0, 239);
        Desk.bid(z, 0, 2, 0, 239);
        c.due("a longer way is found, on which it would stand there", z.find(1), 25);
        z.give(0);
        c.due("where one ends it takes no track", z.give(1), true);
        c.path(z, 1, 5, 20, 25);
        c.why(z, NONE, NONE, NONE);
        z.tracks(1, 0);
        c.why(z, 1, 3, 10);
    }

    private static void notAheadOfTheEarliest(Check c) {
        FreightPaths x = new FreightPaths(3);
        for (int earliest : new int[] {0, 1, 7, 200, 229}) {
            int number = Desk.bid(x, 0, 2, earliest, 239);
            x.give(number);
            c.path(x, number, earliest, earliest + 5, earliest + 10);
            x.drop(number);
        }
        c.due("too late for it", x.find(Desk.bid(x, 0, 2, 230, 239)), NONE);
    }

    private static void notBehindTheLatest(Check c) {
        FreightPaths x = new FreightPaths(4);
        c.due("just so", x.find(Desk.bid(x, 0, 3, 0, 15)), 15);
        c.due("a minute short", x.find(Desk.bid(x, 0, 3, 0, 14)), NONE);
        c.due("slow, just so", x.find(Desk.slow(x, 3, 0, 0, 24)), 24);
        c.due("slow, a minute short", x.find(Desk.slow(x, 3, 0, 0, 23)), NONE);
        c.due("no minute at all", x.find(Desk.bid(x, 0, 1, 0, 0)), NONE);
        c.due("one section, just so", x.find(Desk.bid(x, 1, 0, 100, 105)), 105);
        x.works(2, 10, 11);
        c.due("closed for a minute", x.find(0), NONE);
        c.due("closed for a minute, just so", x.find(Desk.bid(x, 0, 3, 0, 16)), 16);
    }

    private static void inASection(Check c) {
        FreightPaths x = new FreightPaths(2);
        Desk.bid(x, 0, 1, 20, 239);
        x.give(0);
        c.due("right ahead of it", x.find(Desk.bid(x, 0, 1, 15, 20)), 20);
        c.due("a minute into it", x.find(Desk.bid(x, 0, 1, 16, 29)), NONE);
        c.due("right behind it", x.find(Desk.bid(x, 0, 1, 16, 30)), 30);
        c.due("in its last minute", x.find(Desk.bid(x, 0, 1, 24, 29)), NONE);
        c.due("the other way right ahead of it", x.find(Desk.slow(x, 1, 0, 12, 20)), 20);
        c.due("the other way right behind it", x.find(Desk.slow(x, 1, 0, 13, 239)), 33);
        x.works(0, 19, 20);
        x.works(0, 25, 26);
        c.why(x, NONE, NONE, NONE);
        x.works(0, 24, 25);
        c.why(x, 0, 1, 24);
        x.works(0, 20, 21);
        c.why(x, 0, 1, 20);
    }

    private static void ruleOfWorks(Check c) {
        FreightPaths x = new FreightPaths(3);
        x.works(0, 10, 11);
        x.works(1, 20, 30);
        c.due("out of it ahead of the works", x.find(Desk.bid(x, 0, 1, 5, 239)), 10);
        c.due("in it in the closed minute can't be", x.find(Desk.bid(x, 0, 1, 6, 239)), 16);
        c.due("slow, out of it ahead of the works", x.find(Desk.slow(x, 1, 0, 2, 239)), 10);
        c.due("slow, in it can't be", x.find(Desk.slow(x, 1, 0, 3, 239)), 19);
        c.due("out of the second one ahead of its works", x.find(Desk.bid(x, 1, 2, 15, 239)), 20);
        c.due("not in the second one", x.find(Desk.bid(x, 1, 2, 16, 239)), 35);
        c.due("through both ahead of the works", x.find(Desk.bid(x, 2, 0, 0, 239)), 10);
        c.due("through both behind them", x.find(Desk.bid(x, 0, 2, 11, 239)), 35);
        x.works(0, 12, 13);
        c.due("between two works is no room", x.find(Desk.bid(x, 0, 1, 11, 239)), 18);
    }

    private static void ruleOfHolding(Check c) {
        FreightPaths x = new FreightPaths(4);
        Desk.slow(x, 1, 2, 20, 239);
        x.give(0);
        c.due("fast, out of it ahead of the other one", x.find(Desk.bid(x, 1, 2, 15, 239)), 20);
        c.due("fast, a minute later", x.find(Desk.bid(x, 1, 2, 16, 239)), 33);
        c.due("slow, out of it ahead of the other one", x.find(Desk.slow(x, 2, 1, 12, 239)), 20);
        c.due("slow, a minute later", x.find(Desk.slow(x, 2, 1, 13, 239)), 36);
        c.due("in the section below", x.find(Desk.bid(x, 0, 1, 20, 239)), 25);
        c.due("in the section above", x.find(Desk.bid(x, 2, 3, 20, 239)), 25);
        c.due("down in the section below", x.find(Desk.bid(x, 1, 0, 20, 239)), 25);
        c.due("down in the section above", x.find(Desk.bid(x, 3, 2, 20, 239)), 25);
        x.drop(0);
        Desk.slow(x, 2, 1, 20, 239);
        x.give(9);
        c.due("another one down the line", x.find(Desk.bid(x, 1, 2, 16, 239)), 33);
        c.due("beside it in the section below", x.find(Desk.bid(x, 0, 1, 20, 239)), 25);
        c.due("beside it in the section above", x.find(Desk.bid(x, 2, 3, 20, 239)), 25);
        FreightPaths y = new FreightPaths(4);
        Desk.bid(y, 0, 3, 20, 239);
        Desk.bid(y, 3, 0, 20, 239);
        for (int down = 0; down < 2; down++) {
            y.give(down);
            for (int k = 0; k < 3; k++) {
                int leaves = down == 0 ? 20 + 5 * k : 30 - 5 * k;
                c.due("held in section " + k, y.find(Desk.bid(y, k, k + 1, leaves, 239)), leaves + 10);
                c.due("not held in section " + k, y.find(Desk.bid(y, k + 1, k, leaves - 5, 239)), leaves);
            }
            y.drop(down);
        }
        FreightPaths z = new FreightPaths(4);
        Desk.bid(z, 0, 3, 0, 239);
        Desk.bid(z, 3, 0, 0, 239);
        Desk.bid(z, 0, 1, 0, 239);
        Desk.bid(z, 3, 2, 0, 239);
        z.find(0);
        z.give(2);
        z.find(1);
        z.give(3);
        c.due("a longer way that was only found holds nothing behind the end", z.find(Desk.bid(z, 1, 2, 5, 239)), 10);
        c.due("nor ahead of it", z.find(Desk.bid(z, 2, 1, 5, 239)), 10);
    }

    private static void ruleOfHeadway(Check c) {
        for (int headway = 0; headway <= 9; headway++) {
            int behind = headway == 0 ? 0 : headway - 1;
            FreightPaths x = new FreightPaths(2);
            x.headway(headway);
            Desk.bid(x, 0, 1, 50, 239);
            x.give(0);
            c.due("behind it with headway " + headway, x.find(Desk.bid(x, 0, 1, 50, 239)), 60 + behind);
            c.due("the other way behind it with headway " + headway, x.find(Desk.slow(x, 1, 0, 50, 239)), 63 + behind);
            c.due("ahead of it with headway " + headway, x.find(Desk.bid(x, 0, 1, 45 - behind, 239)), 50 - behind);
            c.due("a minute later with headway " + headway, x.find(Desk.bid(x, 0, 1, 46 - behind, 239)), 60 + behind);
            c.due("slow ahead of it with headway " + headway, x.find(Desk.slow(x, 1, 0, 42 - behind, 239)), 50 - behind);
            c.due("slow, a minute later with headway " + headway, x.find(Desk.slow(x, 1, 0, 43 - behind, 239)), 63 + behind);
        }
    }

    private static void ruleInDoubleOnes(Check c) {
        FreightPaths x = new FreightPaths(3);
        x.section(1, true, 5, 8);
        x.headway(3);
        Desk.bid(x, 0, 2, 0, 239);
        x.give(0);
        c.due("double, the other way", x.find(Desk.bid(x, 2, 1, 5, 239)), 10);
        c.due("double, the same way", x.find(Desk.bid(x, 1, 2, 5, 239)), 17);
        c.due("single, the other way", x.find(Desk.bid(x, 1, 0, 0, 239)), 12);
        c.due("single, the same way", x.find(Desk.bid(x, 0, 1, 0, 239)), 12);
        x.drop(0);
        Desk.bid(x, 2, 1, 5, 239);
        x.give(5);
        c.due("double, the other way up", x.find(Desk.bid(x, 1, 2, 5, 239)), 10);
        c.due("double, the same way down", x.find(Desk.bid(x, 2, 1, 5, 239)), 17);
        x.works(1, 5, 6);
        c.due("works close both ways, up", x.find(Desk.bid(x, 1, 2, 5, 239)), 11);
        c.due("works close both ways, down", x.find(Desk.bid(x, 2, 1, 4, 239)), 17);
    }

    private static void ruleOfTracks(Check c) {
        for (int tracks = 0; tracks <= 3; tracks++) {
            FreightPaths x = new FreightPaths(3);
            x.works(0, 20, 100);
            x.works(1, 0, 50);
            x.tracks(1, tracks);
            for (int i = 0; i <= tracks; i++) {
                Desk.bid(x, 0, 2, 0, 239);
                c.due("with " + tracks + " tracks number " + i, x.find(i), i < tracks ? 55 + 5 * i : 110);
                x.give(i);
            }
            c.why(x, NONE, NONE, NONE);
        }
        FreightPaths y = Desk.lineWithStanding();
        y.tracks(1, 0);
        Desk.bid(y, 0, 2, 0, 239);
        c.due("none may stand", y.find(0), 50);
        y.tracks(0, 0);
        y.tracks(2, 0);
        y.tracks(1, 1);
        c.due("other stations don't matter", y.find(0), 25);
    }

    private static void besideOthers(Check c) {
        FreightPaths x = new FreightPaths(3);
        for (int i = 0; i < 3; i++) {
            Desk.bid(x, 0, 2, 0, 239);
        }
        c.due("other bids don't matter", x.find(2), 10);
        x.give(0);
        c.due("what is given to another one matters", x.find(2), 15);
        c.due("what is given to itself doesn't", x.find(0), 10);
        x.give(1);
        c.due("two others", x.find(2), 20);
        x.drop(0);
        c.due("what isn't given any more doesn't", x.find(2), 10);

        FreightPaths y = Desk.lineWithStanding();
        y.tracks(1, 1);
        Desk.bid(y, 0, 2, 0, 239);
        Desk.bid(y, 0, 2, 0, 239);
        y.give(0);
        c.due("its own standing doesn't matter", y.find(0), 25);
        c.due("another one's does", y.find(1), 50);
        y.drop(0);
        c.due("what isn't given any more doesn't stand", y.find(1), 25);
        y.tracks(1, 2);
        y.give(1);
        y.give(0);
        y.tracks(1, 1);
        c.due("two stand where one may", y.why(1), 3);
        Desk.bid(y, 0, 2, 0, 239);
        c.due("others that break a rule don't hinder it elsewhere", y.find(2), 50);
    }

    private static void endsFirst(Check c) {
        FreightPaths x = Desk.lineWithStanding();
        Desk.bid(x, 0, 2, 0, 239);
        c.due("it ends first, though it has to stand for that", x.find(0), 25);
        x.give(0);
        c.path(x, 0, 5, 20, 25);
        x.tracks(1, 0);
        c.due("it leaves later, if it can't stand", x.find(0), 50);
        x.give(0);
        c.path(x, 0, 40, 45, 50);
    }

    private static void standsLeastAtTheLast(Check c) {
        FreightPaths x = new FreightPaths(4);
        x.works(2, 0, 30);
        x.works(0, 10, 100);
        Desk.bid(x, 0, 3, 0, 239);
        x.give(0);
        c.path(x, 0, 5, 25, 30, 35);
        x.tracks(1, 0);
        x.give(0);
        c.path(x, 0, 5, 10, 30, 35);
        FreightPaths y = new FreightPaths(3);
        y.works(1, 0, 30);
        Desk.bid(y, 0, 2, 0, 239);
        y.give(0);
        c.path(y, 0, 25, 30, 35);
        FreightPaths z = new FreightPaths(3);
        z.works(1, 0, 30);
        Desk.bid(z, 2, 0, 0, 239);
        Desk.bid(z, 1, 0, 35, 239);
        z.give(1);
        z.give(0);
        c.path(z, 0, 45, 40, 35);
    }

    private static void standsLeastAhead(Check c) {
        FreightPaths x = new FreightPaths(6);
        x.works(4, 0, 60);
        x.works(0, 10, 200);
        Desk.bid(x, 0, 5, 0, 239);
        x.give(0);
        c.path(x, 0, 5, 45, 50, 55, 60, 65);
        x.tracks(1, 0);
        x.give(0);
        c.path(x, 0, 5, 10, 50, 55, 60, 65);
        x.tracks(2, 0);
        x.give(0);
        c.path(x, 0, 5, 10, 15, 55, 60, 65);
        x.tracks(3, 0);
        x.give(0);
        c.path(x, 0, 5, 10, 15, 20, 60, 65);
        x.tracks(4, 0);
        c.due("it can stand nowhere", x.give(0), true);
        c.path(x, 0, 200, 205, 210, 215, 220, 225);
        FreightPaths y = new FreightPaths(4);
        y.works(2, 0, 60);
        y.works(1, 20, 40);
        y.works(0, 10, 200);
        Desk.bid(y, 0, 3, 0, 239);
        y.give(0);
        c.path(y, 0, 5, 55, 60, 65);
        FreightPaths z = new FreightPaths(4);
        z.works(2, 0, 60);
        z.works(1, 20, 100);
        Desk.bid(z, 0, 3, 0, 239);
        z.give(0);
        c.path(z, 0, 10, 15, 60, 65);
    }
}
