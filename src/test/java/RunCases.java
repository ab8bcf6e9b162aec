import java.util.List;

/** How the trains run. */
final class RunCases {
    private static final int NONE = Desk.NONE;

    private RunCases() {
    }

    static List<Case> all() {
        return List.of(
            Case.of("Terms 3", "A RUN of what is GIVEN, minute by minute from 0 to 479,", RunCases::fromFirstToLastMinute,
                "for (int minute = 0; minute < RUN_MINUTES; minute++)", "for (int minute = 1; minute < RUN_MINUTES; minute++)",
                "for (int minute = 0; minute < RUN_MINUTES; minute++)", "for (int minute = 0; minute < RUN_MINUTES - 1; minute++)",
                "for (int minute = 0; minute < RUN_MINUTES; minute++)", "for (int minute = 0; minute <= RUN_MINUTES; minute++)",
                "return bid.hasPath && step < bid.steps()", "return step < bid.steps()"),
            Case.of("Terms 3", "in each by RANK (of like ones by number):", RunCases::trainsByRank,
                "Bid bid = book.byRank.get(i); if (wantsToLeave", "Bid bid = book.bids.get(i); if (wantsToLeave",
                "byRank.get(place - 1).rank > bid.rank", "byRank.get(place - 1).rank >= bid.rank",
                "byRank.get(place - 1).rank > bid.rank", "byRank.get(place - 1).rank < bid.rank"),
            Case.of("Terms 3", "a train that is at a STATION (its first one, or that to which it came in this minute or ahead of it)",
                RunCases::isAtAStation,
                "thereFrom[bid.number] <= minute &&", "thereFrom[bid.number] < minute &&", "thereFrom[bid.number] <= minute &&", "",
                "thereFrom[bid.number] <= minute &&", "thereFrom[bid.number] <= minute + 1 &&"),
            Case.of("Terms 3", "and whose minute of leaving it (by its PATH) is this one or was, leaves, unless something holds it;",
                RunCases::itsMinuteOfLeaving,
                "bid.leaves[step] <= minute;", "bid.leaves[step] < minute;", "bid.leaves[step] <= minute;", "bid.leaves[step] == minute;",
                "&& bid.leaves[step] <= minute;", ";"),
            Case.of("Terms 3", "what holds it for this minute is the first of these:", RunCases::theFirstThatHolds,
                "if (delayLeft[train] > 0) {", "if (delayLeft[train] > 0 && !line.isClosed(section, minute)) {",
                "if (delayLeft[train] > 0) {", "if (delayLeft[train] > 0 && heldTill[held] < minute) {",
                "} else if (line.isClosed(section, minute)) {", "} else if (line.isClosed(section, minute) && heldTill[held] < minute) {",
                "delayLeft[train]--; toSelf[train]++;", "delayLeft[train]--; toSelf[train]++; toNone[train] += line.isClosed(section, minute) ? 1 : 0;"),
            Case.of("Terms 3", "1 it has DELAY left there: that is one less, put down to itself;", RunCases::delayLeftThere,
                "delayLeft[train]--; toSelf[train]++;", "delayLeft[train] = 0; toSelf[train]++;",
                "delayLeft[train]--; toSelf[train]++;", "delayLeft[train]--; toNone[train]++;",
                "delayLeft[train] = bid.delays[bid.stationAt(stepOf[train])];", "delayLeft[train] = 0;",
                "delayLeft[train] = bid.delays[bid.stationAt(stepOf[train])];", "delayLeft[train] = bid.delays[stepOf[train]];",
                "delayLeft[i] = bid.delays[bid.from];", "delayLeft[i] = bid.delays[0];",
                "if (delayLeft[train] > 0) { delayLeft[train]--;", "if (delayLeft[train] > 0) { delayLeft[train]--; bid.delays[bid.stationAt(stepOf[train])]--;"),
            Case.of("Terms 3", "2 WORKS that close the SECTION in this minute: put down to none;", RunCases::worksHold,
                "toNone[train]++;", "toSelf[train]++;", "} else if (line.isClosed(section, minute)) {", "} else if (line.isClosed(section, minute + 1)) {",
                "} else if (line.isClosed(section, minute)) {", "} else if (line.isClosed(stepOf[train], minute)) {",
                "} else if (line.isClosed(section, minute)) {",
                "} else if (line.isClosed(section, minute) || line.isClosed(section, minute + line.lengthOf(bid, stepOf[train]) - 1)) {"),
            Case.of("Terms 3", "3 a train that HOLDS the SECTION in this minute", RunCases::anotherOneHolds,
                "heldTill[held] >= minute", "heldTill[held] > minute", "minute + length - 1 + line.holdBehind()", "minute + length + line.holdBehind()",
                "minute + length - 1 + line.holdBehind()", "minute + length - 1", "Math.max(0, headwayMinutes - 1)", "headwayMinutes - 1",
                "int held = section * 2", "int held = 0"),
            Case.of("Terms 3", "(also one that left in it;", RunCases::oneThatLeftInIt,
                "heldTill[held] >= minute && holder[held] != NONE",
                "heldTill[held] >= minute && holder[held] != NONE && (stepOf[holder[held]] == 0 || thereFrom[holder[held]]"
                + " - line.lengthOf(book.bids.get(holder[held]), stepOf[holder[held]] - 1) < minute)"),
            Case.of("Terms 3", "in a DOUBLE one of its own way alone)", RunCases::ofItsOwnWayAlone,
                "int held = section * 2", "int held = section", "(line.isDouble[section] && bid.way() < 0 ? 1 : 0)", "0", "(line.isDouble[section] && bid.way() < 0 ? 1 : 0)", "(bid.way() < 0 ? 1 : 0)",
                "(line.isDouble[section] && bid.way() < 0 ? 1 : 0)", "(line.isDouble[section] ? train % 2 : 0)"),
            Case.of("Terms 3", ": put down to that one.", RunCases::putDownToThatOne,
                "toOther[train * MOST_BIDS + holder[held]]++;", "toOther[holder[held] * MOST_BIDS + train]++;",
                "holder[held] = train;", "holder[held] = holder[held] == NONE ? train : holder[held];"),
            Case.of("Terms 3", "If it leaves it is IN the SECTION from this minute on;", RunCases::inFromThisMinuteOn,
                "heldTill[held] = minute + length - 1", "heldTill[held] = bid.leaves[stepOf[train]] + length - 1",
                "heldTill[held] = minute + length - 1", "heldTill[held] = minute + length",
                "holder[held] = train; heldTill[held] = minute", "holder[held] = train; heldTill[held] = -minute"),
            Case.of("Terms 3", "it is at the next STATION when it has been there for all its MINUTES (in the next minute).", RunCases::atTheNextStation,
                "thereFrom[train] = minute + length;", "thereFrom[train] = minute + length + 1;",
                "thereFrom[train] = minute + length;", "thereFrom[train] = minute + length - 1;",
                "int length = line.lengthOf(bid, stepOf[train]); holder", "int length = bid.kind == 0 ? 5 : 8; holder"),
            Case.of("Terms 3", "TRACKS don't matter.", RunCases::tracksDontMatter,
                "return bid.hasPath && step < bid.steps()", "return bid.hasPath && line.tracksAt[bid.stationAt(step)] > 0 && step < bid.steps()"),
            Case.of("Terms 3", "LATE is how much later than by its PATH it comes to its end;", RunCases::howLate,
                "end - bid.comes[bid.steps()];", "end - bid.earliest;", "end - bid.comes[bid.steps()];", "end - bid.latest;",
                "end - bid.comes[bid.steps()];", "toSelf[train] + toNone[train] + toOthers(train);"),
            Case.of("Terms 3", "MADE UP is what was put down, less that.", RunCases::madeUp,
                "toSelf[train] + toNone[train] + toOthers(train) - late", "toSelf[train] + toNone[train] + toOthers(train)",
                "toSelf[train] + toNone[train] + toOthers(train) - late", "toNone[train] + toOthers(train) - late",
                "toSelf[train] + toNone[train] + toOthers(train) - late", "toSelf[train] + toOthers(train) - late",
                "toSelf[train] + toNone[train] + toOthers(train) - late", "toSelf[train] + toNone[train] - late"),
            Case.of("Terms 3", "For each minute that is put down to a train of another HOUSE that HOUSE OWES one coin to the train's.",
                RunCases::coins,
                "coins += book.bids.get(train).house == house ? minutes : 0;", "coins -= book.bids.get(train).house == house ? minutes : 0;",
                "coins -= book.bids.get(other).house == house ? minutes : 0;", "",
                "coins += book.bids.get(train).house == house ? minutes : 0;", "",
                "coins += book.bids.get(train).house == house ? minutes : 0;",
                "coins += book.bids.get(train).house == house && toOther[train * MOST_BIDS + other] > 0 ? 1 : 0;"));
    }

    private static void fromFirstToLastMinute(Check c) {
        FreightPaths x = new FreightPaths(2);
        Desk.ranked(x, 0, 0, 1);
        Desk.ranked(x, 1, 0, 0);
        x.give(0);
        c.ran(x, 0, 5, 0, 0, 0, 0, 0);
        c.ran(x, 1, NONE, NONE, NONE, NONE, NONE, NONE);
        int[][] works = {{477, 3}, {478, 2}, {479, 1}, {480, 0}};
        for (int[] row : works) {
            FreightPaths y = new FreightPaths(2);
            Desk.ranked(y, 0, 0, 0);
            Desk.ranked(y, 1, 0, 1);
            y.round();
            y.works(0, 0, row[0]);
            c.due("closed till " + row[0], y.blame(1, 0), row[1]);
            c.due("coins, closed till " + row[0], y.balance(1), row[1]);
        }
    }

    private static void trainsByRank(Check c) {
        FreightPaths x = new FreightPaths(2);
        int[] ranks = {5, 0, 5, 0};
        for (int i = 0; i < 4; i++) {
            Desk.ranked(x, 0, 0, ranks[i]);
            x.give(i);
        }
        x.works(0, 0, 30);
        int[] ends = {45, 35, 50, 40};
        for (int i = 0; i < 4; i++) {
            c.due("end of train " + i, x.ran(i, 0), ends[i]);
        }
        FreightPaths y = new FreightPaths(2);
        y.bid(1000, 239, 1, 1);
        y.bid(100, 239, 1, 0);
        y.give(0);
        y.give(1);
        y.works(0, 0, 7);
        c.due("the lower rank, the other way", y.ran(1, 0), 12);
        c.due("the higher rank", y.ran(0, 0), 17);
    }

    private static void isAtAStation(Check c) {
        FreightPaths x = new FreightPaths(4);
        Desk.bid(x, 0, 3, 0, 239);
        x.give(0);
        c.ran(x, 0, 15, 0, 0, 0, 0, 0);
        x.delay(0, 0, 3);
        c.ran(x, 0, 18, 3, 3, 0, 0, 0);
        x.delay(0, 2, 1);
        c.ran(x, 0, 19, 4, 4, 0, 0, 0);
        FreightPaths y = new FreightPaths(4);
        Desk.slow(y, 3, 1, 7, 239);
        y.give(0);
        c.ran(y, 0, 23, 0, 0, 0, 0, 0);
        y.delay(0, 3, 1);
        c.ran(y, 0, 24, 1, 1, 0, 0, 0);
    }

    /** A train that stands at 1 from 10 to 20 for others that are gone then. */
    private static void itsMinuteOfLeaving(Check c) {
        FreightPaths x = new FreightPaths(3);
        Desk.bid(x, 0, 2, 0, 239);
        Desk.slow(x, 1, 2, 5, 239);
        Desk.slow(x, 1, 2, 5, 239);
        x.give(1);
        x.give(2);
        x.works(0, 10, 40);
        x.give(0);
        c.path(x, 0, 5, 21, 26);
        x.drop(1);
        x.drop(2);
        c.ran(x, 0, 26, 0, 0, 0, 0, 0);
        x.delay(0, 0, 4);
        c.ran(x, 0, 26, 0, 4, 0, 0, 4);
        x.delay(0, 0, 20);
        c.ran(x, 0, 50, 24, 20, 15, 0, 11);
        x.delay(0, 0, 0);
        x.delay(0, 1, 1);
        c.ran(x, 0, 27, 1, 1, 0, 0, 0);
    }

    private static void theFirstThatHolds(Check c) {
        FreightPaths x = new FreightPaths(2);
        Desk.ranked(x, 0, 0, 0);
        Desk.ranked(x, 1, 0, 1);
        x.round();
        x.delay(0, 0, 3);
        x.delay(1, 0, 2);
        c.ran(x, 0, 8, 3, 3, 0, 0, 0);
        c.ran(x, 1, 13, 3, 2, 0, 1, 0);
        x.works(0, 5, 8);
        c.ran(x, 0, 8, 3, 3, 0, 0, 0);
        c.ran(x, 1, 13, 3, 2, 1, 0, 0);
        x.delay(1, 0, 0);
        c.ran(x, 1, 13, 3, 0, 3, 0, 0);
        x.delay(1, 0, 4);
        c.ran(x, 1, 14, 4, 4, 0, 0, 0);
        FreightPaths y = new FreightPaths(2);
        Desk.ranked(y, 0, 0, 0);
        Desk.ranked(y, 1, 0, 1);
        y.round();
        y.delay(0, 0, 3);
        y.works(0, 6, 7);
        c.ran(y, 1, 13, 3, 0, 1, 2, 0);
    }

    private static void delayLeftThere(Check c) {
        FreightPaths x = new FreightPaths(4);
        Desk.bid(x, 3, 1, 0, 239);
        Desk.bid(x, 0, 2, 100, 239);
        x.give(0);
        x.give(1);
        for (int minutes : new int[] {0, 1, 2, 59, 60}) {
            x.delay(0, 3, minutes);
            c.ran(x, 0, 10 + minutes, minutes, minutes, 0, 0, 0);
        }
        x.delay(0, 3, 0);
        for (int minutes : new int[] {0, 1, 60}) {
            x.delay(0, 2, minutes);
            c.ran(x, 0, 10 + minutes, minutes, minutes, 0, 0, 0);
        }
        x.delay(0, 3, 7);
        c.ran(x, 0, 77, 67, 67, 0, 0, 0);
        x.delay(0, 1, 5);
        x.delay(0, 0, 60);
        c.ran(x, 0, 77, 67, 67, 0, 0, 0);
        c.ran(x, 1, 110, 0, 0, 0, 0, 0);
        x.delay(1, 1, 4);
        c.ran(x, 0, 77, 67, 67, 0, 0, 0);
        c.ran(x, 1, 114, 4, 4, 0, 0, 0);
    }

    private static void worksHold(Check c) {
        int[][] rows = {{9, 10, 0}, {10, 11, 1}, {10, 13, 3}, {0, 12, 2}, {11, 12, 0}, {14, 15, 0}, {15, 16, 0}};
        for (int[] row : rows) {
            FreightPaths x = new FreightPaths(3);
            Desk.bid(x, 2, 0, 5, 239);
            x.give(0);
            x.works(0, row[0], row[1]);
            c.ran(x, 0, 15 + row[2], row[2], 0, row[2], 0, 0);
        }
        FreightPaths y = new FreightPaths(3);
        Desk.bid(y, 2, 0, 5, 239);
        y.give(0);
        y.works(1, 10, 20);
        c.ran(y, 0, 15, 0, 0, 0, 0, 0);
        y.works(1, 5, 6);
        c.ran(y, 0, 16, 1, 0, 1, 0, 0);
        y.works(1, 5, 6);
        c.ran(y, 0, 16, 1, 0, 1, 0, 0);
    }

    private static void anotherOneHolds(Check c) {
        FreightPaths x = new FreightPaths(3);
        Desk.ranked(x, 0, 0, 0);
        Desk.ranked(x, 1, 0, 1);
        x.bid(21000, 10239, 1, 2);
        x.bid(31200, 239, 1, 3);
        for (int i = 0; i < 4; i++) {
            x.give(i);
        }
        x.delay(0, 0, 2);
        for (int headway = 0; headway <= 9; headway++) {
            int behind = headway == 0 ? 0 : headway - 1;
            x.headway(headway);
            c.ran(x, 0, 7, 2, 2, 0, 0, 0);
            c.ran(x, 1, 12 + behind, 2 + behind, 0, 0, 2 + behind, 0);
            c.ran(x, 2, 17 + 2 * behind, 2 + 2 * behind, 0, 0, 2 + 2 * behind, 0);
            c.ran(x, 3, 5, 0, 0, 0, 0, 0);
        }
    }

    private static void oneThatLeftInIt(Check c) {
        FreightPaths x = new FreightPaths(2);
        Desk.ranked(x, 0, 0, 0);
        Desk.ranked(x, 1, 0, 1);
        x.round();
        x.works(0, 0, 20);
        c.ran(x, 0, 25, 20, 0, 20, 0, 0);
        c.ran(x, 1, 30, 20, 0, 15, 5, 0);
        FreightPaths y = new FreightPaths(2);
        y.bid(100, 239, 1, 0);
        y.bid(11000, 239, 1, 1);
        y.round();
        y.delay(0, 0, 5);
        c.ran(y, 1, 15, 5, 0, 0, 5, 0);
        y.delay(0, 0, 6);
        c.ran(y, 1, 10, 0, 0, 0, 0, 0);
    }

    private static void ofItsOwnWayAlone(Check c) {
        FreightPaths x = new FreightPaths(3);
        x.section(0, true, 5, 8);
        x.bid(100, 239, 1, 0);
        x.bid(10100, 239, 1, 1);
        x.bid(21000, 5239, 1, 2);
        x.bid(31000, 239, 1, 3);
        for (int i = 0; i < 4; i++) {
            x.give(i);
        }
        c.path(x, 3, 5, 0);
        x.delay(0, 0, 3);
        x.delay(3, 1, 4);
        x.headway(3);
        c.ran(x, 0, 8, 3, 3, 0, 0, 0);
        c.ran(x, 1, 15, 5, 0, 0, 5, 0);
        c.ran(x, 2, 16, 6, 0, 0, 6, 0);
        c.ran(x, 3, 9, 4, 4, 0, 0, 0);
        c.due("up by the other one up", x.blame(1, 0), 5);
        c.due("down by the other one down", x.blame(2, 3), 6);
        FreightPaths y = new FreightPaths(2);
        y.bid(100, 239, 1, 0);
        y.bid(11000, 239, 1, 1);
        y.round();
        y.delay(0, 0, 2);
        c.due("in a single one the other way too", y.blame(1, 0), 2);
        FreightPaths z = new FreightPaths(8);
        for (int k = 0; k < 7; k++) {
            z.section(k, true, 5, 8);
        }
        for (int k = 0; k < 7; k++) {
            Desk.bid(z, k, k + 1, 0, 239);
            Desk.bid(z, k + 1, k, 0, 239);
        }
        z.round();
        z.works(3, 0, 2);
        for (int i = 0; i < 14; i++) {
            int late = i / 2 == 3 ? 2 : 0;
            c.ran(z, i, 5 + late, late, 0, late, 0, 0);
        }
    }

    private static void putDownToThatOne(Check c) {
        FreightPaths x = new FreightPaths(2);
        for (int i = 0; i < 4; i++) {
            Desk.ranked(x, i, 0, i);
        }
        x.round();
        x.delay(0, 0, 4);
        x.delay(2, 0, 6);
        c.ran(x, 2, 25, 10, 6, 0, 4, 0);
        int[][] minutes = {{0, 0, 0, 0}, {4, 0, 0, 0}, {0, 0, 0, 4}, {0, 0, 0, 0}};
        for (int i = 0; i < 4; i++) {
            for (int j = 0; j < 4; j++) {
                if (i != j) {
                    c.due("blame(" + i + ", " + j + ")", x.blame(i, j), minutes[i][j]);
                }
            }
        }
        x.delay(2, 0, 0);
        c.due("the third one by the second one", x.blame(2, 1), 4);
        c.due("the fourth one by the third one", x.blame(3, 2), 4);
        c.due("not by the first one", x.blame(3, 0), 0);
    }

    private static void inFromThisMinuteOn(Check c) {
        FreightPaths x = new FreightPaths(2);
        x.bid(110, 239, 1, 0);
        x.bid(11000, 239, 1, 1);
        x.round();
        x.delay(0, 0, 7);
        c.ran(x, 0, 15, 7, 7, 0, 0, 0);
        c.ran(x, 1, 20, 7, 0, 0, 7, 0);
        x.delay(0, 0, 8);
        c.due("it leaves in 8 and goes first", x.ran(1, 4), 8);
        x.delay(0, 0, 9);
        c.ran(x, 1, 13, 0, 0, 0, 0, 0);
        c.ran(x, 0, 21, 13, 9, 0, 4, 0);
    }

    private static void atTheNextStation(Check c) {
        FreightPaths x = new FreightPaths(4);
        x.section(0, false, 1, 30);
        x.section(1, false, 9, 2);
        x.section(2, false, 30, 1);
        Desk.bid(x, 0, 3, 0, 239);
        Desk.slow(x, 3, 0, 0, 239);
        for (int i = 0; i < 2; i++) {
            x.give(i);
            int end = i == 0 ? 40 : 33;
            c.ran(x, i, end, 0, 0, 0, 0, 0);
            x.delay(i, 1, 2);
            c.ran(x, i, end + 2, 2, 2, 0, 0, 0);
            x.drop(i);
        }
    }

    private static void tracksDontMatter(Check c) {
        FreightPaths x = Desk.lineWithStanding();
        Desk.bid(x, 0, 2, 0, 239);
        Desk.bid(x, 0, 2, 0, 239);
        x.round();
        for (int tracks = 2; tracks >= 0; tracks--) {
            for (int station = 0; station < 3; station++) {
                x.tracks(station, tracks);
            }
            c.ran(x, 0, 25, 0, 0, 0, 0, 0);
            c.ran(x, 1, 30, 0, 0, 0, 0, 0);
        }
        x.delay(0, 1, 10);
        c.ran(x, 0, 35, 10, 10, 0, 0, 0);
        c.ran(x, 1, 30, 0, 0, 0, 0, 0);
    }

    private static void howLate(Check c) {
        FreightPaths x = Desk.lineWithStanding();
        Desk.bid(x, 0, 2, 0, 239);
        x.give(0);
        c.due("not late", x.ran(0, 1), 0);
        int[][] rows = {{1, 0}, {4, 0}, {5, 25}, {34, 25}, {35, 25}, {36, 26}, {60, 50}};
        for (int[] row : rows) {
            x.delay(0, 0, row[0]);
            c.due("late with delay " + row[0], x.ran(0, 1), row[1]);
        }
        x.delay(0, 0, 4);
        x.delay(0, 1, 1);
        c.due("late by the last minute alone", x.ran(0, 1), 1);
    }

    private static void madeUp(Check c) {
        FreightPaths x = Desk.lineWithStanding();
        x.bid(200, 239, 1, 1);
        x.bid(11200, 239, 1, 0);
        x.give(0);
        x.give(1);
        c.path(x, 0, 5, 20, 25);
        c.ran(x, 0, 25, 0, 0, 0, 0, 0);
        x.delay(0, 0, 4);
        c.ran(x, 0, 25, 0, 4, 0, 0, 4);
        x.works(0, 8, 9);
        c.ran(x, 0, 25, 0, 4, 0, 0, 4);
        x.delay(0, 0, 3);
        c.ran(x, 0, 25, 0, 3, 1, 0, 4);
        x.works(1, 20, 25);
        c.ran(x, 0, 35, 10, 3, 6, 5, 4);
        c.ran(x, 1, 30, 0, 0, 0, 0, 0);
    }

    private static void coins(Check c) {
        FreightPaths x = new FreightPaths(2);
        int[] houses = {0, 3, 3, 5};
        for (int i = 0; i < 4; i++) {
            Desk.ranked(x, houses[i], 0, i);
        }
        x.round();
        x.delay(0, 0, 2);
        int[][] balances = {{0, -2}, {3, 0}, {5, 2}, {1, 0}, {2, 0}, {4, 0}};
        for (int[] row : balances) {
            c.due("balance(" + row[0] + ")", x.balance(row[0]), row[1]);
        }
        x.delay(3, 0, 9);
        c.due("its own delay ahead of the other one", x.balance(5), 0);
        x.delay(3, 0, 0);
        x.works(0, 0, 5);
        int[][] later = {{0, -5}, {3, 0}, {5, 5}};
        for (int[] row : later) {
            c.due("with works, balance(" + row[0] + ")", x.balance(row[0]), row[1]);
        }
    }
}
