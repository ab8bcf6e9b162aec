import java.util.List;

/** Breaks of what is given. */
final class BreakCases {
    private static final int NONE = Desk.NONE;
    private static final String MINUTES_UP = "for (int m = bid.leaves[step]; m < bid.comes[step + 1]; m++) { if ";
    private static final String MINUTES_DOWN = "for (int m = bid.comes[step + 1] - 1; m >= bid.leaves[step]; m--) { if ";
    private static final String STEPS_UP = "for (int step = 0; step < bid.steps(); step++) { ";
    private static final String STEPS_DOWN = "for (int step = bid.steps() - 1; step >= 0; step--) { ";

    private BreakCases() {
    }

    static List<Case> all() {
        return List.of(
            Case.of("Terms 2", "A BREAK of what is GIVEN: a BID, a RULE, a minute: by BIDS,", BreakCases::byBids,
                "for (int i = 0; i < book.size(); i++) { Bid bid = book.bids.get(i); for (int r",
                "for (int i = book.size() - 1; i >= 0; i--) { Bid bid = book.bids.get(i); for (int r",
                "Bid bid = book.bids.get(i); for (int r", "Bid bid = book.byRank.get(i); for (int r",
                "r <= RULES && bid.hasPath;", "r <= RULES;"),
            Case.of("Terms 2", "of one by RULES,", BreakCases::byRules,
                "for (int r = 1; r <= RULES && bid.hasPath; r++)", "for (int r = RULES; r >= 1 && bid.hasPath; r--)",
                "RULES = 3", "RULES = 2"),
            Case.of("Terms 2", "of one by minutes:", BreakCases::byMinutes,
                MINUTES_UP + "(line.isClosed", MINUTES_DOWN + "(line.isClosed", MINUTES_UP + "(isHeldByOther", MINUTES_DOWN + "(isHeldByOther",
                STEPS_UP + MINUTES_UP + "(line.isClosed", STEPS_DOWN + MINUTES_UP + "(line.isClosed",
                STEPS_UP + MINUTES_UP + "(isHeldByOther", STEPS_DOWN + MINUTES_UP + "(isHeldByOther",
                "for (int m = bid.comes[step]; m < bid.leaves[step]; m++)", "for (int m = bid.leaves[step] - 1; m >= bid.comes[step]; m--)",
                "for (int step = 1; step < bid.steps(); step++) { int station", "for (int step = bid.steps() - 1; step >= 1; step--) { int station"),
            Case.of("Terms 2", "RULE 1: closed then;", BreakCases::closedThen,
                "(line.isClosed(bid.sectionAt(step), m))", "(line.isClosed(step, m))",
                STEPS_UP + MINUTES_UP + "(line.isClosed", STEPS_UP.replace("< bid", "<= bid") + MINUTES_UP + "(line.isClosed",
                "minute >= worksFrom[i] && minute < worksTo[i]", "minute > worksFrom[i] && minute < worksTo[i]",
                "minute >= worksFrom[i] && minute < worksTo[i]", "minute >= worksFrom[i] && minute <= worksTo[i]",
                "for (int i = 0; i < worksCame; i++)", "for (int i = 0; i < worksCame && i < 9; i++)"),
            Case.of("Terms 2", "2: it is IN a SECTION then that another one HOLDS;", BreakCases::heldThen,
                "m < other.comes[step + 1] + line.holdBehind()", "m <= other.comes[step + 1] + line.holdBehind()",
                "m < other.comes[step + 1] + line.holdBehind()", "m < other.comes[step + 1]",
                "m >= other.leaves[step] && m <", "m >= other.leaves[step] - line.holdBehind() && m <",
                "if (other != bid && other.hasPath && step != NONE", "if (other.hasPath && step != NONE",
                "if (other != bid && other.hasPath && step != NONE", "if (other != bid && step != NONE",
                "line.isShared(section, bid, other) && m", "m"),
            Case.of("Terms 2", "3: it stands where too many do.", BreakCases::standsWhereTooManyDo,
                "standingAt(station, m) > line.tracksAt[station]", "standingAt(station, m) >= line.tracksAt[station]",
                "standingAt(station, m) > line.tracksAt[station]", "standingAt(station, m) > line.tracksAt[station] + 1",
                "if (bid.hasPath && step > 0 && step", "if (step > 0 && step"),
            Case.of("Promise 14", "The first BREAK: what 0 the BID, 1 the RULE, 2 the minute;", BreakCases::whatTheBreakIs,
                "what == 1 ? breaks.rule : breaks.minute", "what == 2 ? breaks.rule : breaks.minute",
                "return breaks.bidNumber;", "return breaks.minute;", "bidNumber = i;", "bidNumber = r;",
                "minute = broken; return true;", "return true;", "rule = r;", ""),
            Case.of("Promise 14", "NONE for others,", BreakCases::whyOfOthers,
                "isWithin(what, 0, 2)", "isWithin(what, -1, 2)", "isWithin(what, 0, 2)", "isWithin(what, 0, 3)",
                "!isWithin(what, 0, 2) || ", ""),
            Case.of("Promise 14", "or if there is none.", BreakCases::whyOfNone,
                "if (!isWithin(what, 0, 2) || !breaks.seekFirst()) { return NONE; }",
                "if (!isWithin(what, 0, 2)) { return NONE; } breaks.seekFirst();",
                "if (!isWithin(what, 0, 2) || !breaks.seekFirst()) { return NONE; }",
                "if (!isWithin(what, 0, 2) || !breaks.seekFirst()) { return 0; }"));
    }

    private static void byBids(Check c) {
        FreightPaths x = Desk.lineWithStanding();
        x.bid(200, 239, 1, 9);
        x.bid(100, 239, 1, 0);
        x.bid(100, 239, 1, 0);
        x.give(0);
        x.give(1);
        c.path(x, 0, 5, 20, 25);
        c.path(x, 1, 0, 5);
        x.works(0, 0, 1);
        c.why(x, 1, 1, 0);
        x.tracks(1, 0);
        c.why(x, 0, 3, 10);
        x.drop(0);
        c.why(x, 1, 1, 0);
        x.drop(1);
        c.why(x, NONE, NONE, NONE);
    }

    private static void byRules(Check c) {
        FreightPaths x = Desk.lineWithStanding();
        Desk.bid(x, 0, 2, 0, 239);
        Desk.bid(x, 1, 2, 0, 239);
        x.give(1);
        x.give(0);
        c.path(x, 0, 5, 25, 30);
        x.tracks(1, 0);
        c.why(x, 0, 3, 10);
        x.headway(3);
        c.why(x, 0, 2, 25);
        x.works(1, 29, 30);
        c.why(x, 0, 1, 29);
        x.headway(1);
        c.why(x, 0, 1, 29);
        x.tracks(1, 1);
        c.why(x, 0, 1, 29);
    }

    private static void byMinutes(Check c) {
        FreightPaths x = new FreightPaths(4);
        Desk.bid(x, 0, 3, 0, 239);
        x.give(0);
        int[][] works = {{2, 12, 14}, {1, 9, 10}, {1, 6, 7}, {2, 10, 11}, {0, 3, 5}, {0, 0, 5}};
        int[] minutes = {12, 9, 6, 6, 3, 0};
        for (int i = 0; i < works.length; i++) {
            x.works(works[i][0], works[i][1], works[i][2]);
            c.why(x, 0, 1, minutes[i]);
        }
        FreightPaths y = new FreightPaths(4);
        Desk.bid(y, 0, 3, 0, 239);
        Desk.bid(y, 0, 3, 0, 239);
        y.give(0);
        y.give(1);
        y.headway(4);
        c.why(y, 1, 2, 5);
        FreightPaths z = new FreightPaths(4);
        z.works(0, 10, 200);
        z.works(1, 0, 20);
        z.works(1, 25, 300);
        z.works(2, 0, 40);
        Desk.bid(z, 0, 3, 0, 239);
        z.give(0);
        c.path(z, 0, 5, 20, 40, 45);
        z.tracks(2, 0);
        c.why(z, 0, 3, 25);
        z.tracks(1, 0);
        c.why(z, 0, 3, 10);
    }

    private static void closedThen(Check c) {
        FreightPaths x = new FreightPaths(3);
        Desk.bid(x, 2, 0, 20, 239);
        x.give(0);
        c.path(x, 0, 30, 25, 20);
        int[][] open = {{1, 19, 20}, {1, 25, 26}, {0, 24, 25}, {0, 30, 31}, {1, 0, 20}, {0, 30, 480}, {1, 25, 480}};
        for (int[] row : open) {
            x.works(row[0], row[1], row[2]);
            c.why(x, NONE, NONE, NONE);
        }
        x.works(0, 29, 30);
        c.why(x, 0, 1, 29);
        x.works(0, 25, 26);
        c.why(x, 0, 1, 25);
        x.works(1, 24, 25);
        c.why(x, 0, 1, 24);
        FreightPaths y = new FreightPaths(3);
        Desk.bid(y, 2, 0, 20, 239);
        y.give(0);
        y.works(1, 20, 21);
        c.why(y, 0, 1, 20);
        FreightPaths z = new FreightPaths(4);
        Desk.bid(z, 0, 1, 0, 239);
        Desk.bid(z, 0, 3, 0, 239);
        c.due("a longer way is found", z.find(1), 15);
        z.give(0);
        z.works(1, 0, 480);
        c.why(z, NONE, NONE, NONE);
    }

    private static void heldThen(Check c) {
        for (int first = 0; first < 2; first++) {
            FreightPaths x = new FreightPaths(2);
            Desk.bid(x, 0, 1, 0, 239);
            Desk.bid(x, first, 1 - first, 0, 239);
            x.give(first);
            x.give(1 - first);
            x.headway(0);
            c.why(x, NONE, NONE, NONE);
            x.headway(1);
            c.why(x, NONE, NONE, NONE);
            for (int headway = 2; headway <= 9; headway++) {
                x.headway(headway);
                c.why(x, 1 - first, 2, 5);
            }
            x.drop(first);
            c.why(x, NONE, NONE, NONE);
        }
        FreightPaths y = new FreightPaths(2);
        Desk.bid(y, 0, 1, 0, 239);
        Desk.bid(y, 0, 1, 8, 239);
        y.give(0);
        y.give(1);
        y.headway(4);
        c.why(y, NONE, NONE, NONE);
        y.headway(5);
        c.why(y, 1, 2, 8);
        FreightPaths z = new FreightPaths(2);
        z.section(0, true, 5, 8);
        Desk.bid(z, 0, 1, 0, 239);
        Desk.bid(z, 1, 0, 2, 239);
        z.give(0);
        z.give(1);
        z.headway(9);
        c.why(z, NONE, NONE, NONE);
    }

    private static void standsWhereTooManyDo(Check c) {
        FreightPaths x = new FreightPaths(3);
        x.works(0, 20, 100);
        x.works(1, 0, 50);
        x.tracks(1, 3);
        for (int i = 0; i < 3; i++) {
            Desk.bid(x, 0, 2, 0, 239);
            x.give(i);
        }
        c.why(x, NONE, NONE, NONE);
        x.tracks(1, 2);
        c.why(x, 0, 3, 20);
        x.tracks(1, 1);
        c.why(x, 0, 3, 20);
        x.drop(0);
        c.why(x, 1, 3, 15);
        x.tracks(1, 2);
        c.why(x, NONE, NONE, NONE);
        x.drop(1);
        x.tracks(1, 0);
        c.why(x, 2, 3, 10);
        x.tracks(1, 1);
        c.why(x, NONE, NONE, NONE);
    }

    private static void whatTheBreakIs(Check c) {
        FreightPaths x = new FreightPaths(2);
        for (int i = 0; i < 16; i++) {
            Desk.bid(x, 0, 1, 12 * i, 239);
            x.give(i);
        }
        x.works(0, 183, 184);
        c.why(x, 15, 1, 183);
        FreightPaths y = Desk.lineWithStanding();
        Desk.bid(y, 0, 1, 0, 239);
        Desk.bid(y, 0, 2, 0, 239);
        y.give(1);
        y.tracks(1, 0);
        c.why(y, 1, 3, 10);
        y.works(0, 5, 6);
        c.why(y, 1, 1, 5);
    }

    private static void whyOfOthers(Check c) {
        FreightPaths x = new FreightPaths(2);
        Desk.bid(x, 0, 1, 0, 239);
        x.give(0);
        x.works(0, 1, 2);
        c.why(x, 0, 1, 1);
        for (int what : new int[] {Desk.LOWEST, -2, -1, 3, 4, 256, Desk.HIGHEST}) {
            c.due("why(" + what + ")", x.why(what), NONE);
        }
    }

    private static void whyOfNone(Check c) {
        FreightPaths x = new FreightPaths(2);
        c.why(x, NONE, NONE, NONE);
        Desk.bid(x, 0, 1, 0, 239);
        c.why(x, NONE, NONE, NONE);
        x.give(0);
        c.why(x, NONE, NONE, NONE);
        x.works(0, 1, 2);
        c.why(x, 0, 1, 1);
        x.drop(0);
        c.why(x, NONE, NONE, NONE);
        x.give(0);
        c.why(x, NONE, NONE, NONE);
        x.works(0, 0, 480);
        c.why(x, 0, 1, 2);
        x.round();
        c.why(x, NONE, NONE, NONE);
    }
}
