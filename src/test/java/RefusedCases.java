import java.util.List;
import java.util.function.Consumer;

/** What is refused changes nothing: a desk with refused calls answers all that follows as its twin without them. */
final class RefusedCases {
    private static final int LOWEST = Desk.LOWEST;
    private static final int HIGHEST = Desk.HIGHEST;
    private static final String WORDS = "What is refused changes nothing.";

    private RefusedCases() {
    }

    static List<Case> all() {
        return List.of(
            refused(RefusedCases::sections, "!isWithin(slow, 1, MOST_SECTION_MINUTES)) { return false; }",
                "!isWithin(slow, 1, MOST_SECTION_MINUTES)) { if (line.hasSection(k)) { line.isDouble[k] = isDouble; } return false; }",
                "!isWithin(slow, 1, MOST_SECTION_MINUTES)) { return false; }",
                "!isWithin(slow, 1, MOST_SECTION_MINUTES)) { if (line.hasSection(k) && isWithin(fast, 1, 30)) { line.fastMinutes[k] = fast; } return false; }",
                "if (book.pathsGiven() > 0) { return false; }", "if (book.pathsGiven() > 0) { line.setSection(k, isDouble, fast, slow); return false; }"),
            refused(RefusedCases::tracks, "!isWithin(n, 0, MOST_TRACKS)) { return false; }",
                "!isWithin(n, 0, MOST_TRACKS)) { if (line.hasStation(station)) { line.tracksAt[station] = n < 0 ? 0 : 9; } return false; }",
                "!isWithin(n, 0, MOST_TRACKS)) { return false; }",
                "!isWithin(n, 0, MOST_TRACKS)) { line.tracksAt[station < 0 ? 0 : line.stations - 2] = 0; return false; }"),
            refused(RefusedCases::headways, "if (!isWithin(minutes, 0, MOST_HEADWAY)) { return false; }",
                "if (!isWithin(minutes, 0, MOST_HEADWAY)) { line.headwayMinutes = minutes < 0 ? 0 : 9; return false; }"),
            refused(RefusedCases::worksOfAll, "line.worksCame >= MOST_WORKS) { return false; }",
                "line.worksCame >= MOST_WORKS) { line.worksCame += line.worksCame < MOST_WORKS ? 1 : 0; return false; }",
                "line.worksCame >= MOST_WORKS) { return false; }",
                "line.worksCame >= MOST_WORKS) { line.worksSection[0] = 1; return false; }"),
            refused(RefusedCases::bids, "!Bid.isWhen(when)) { return NONE; }",
                "!Bid.isWhen(when)) { book.add(new Bid(book.size(), 100, 0, 0, 0)); return NONE; }",
                "!isWithin(rank, 0, MOST_RANK)) { return NONE; }", "!isWithin(rank, 0, MOST_RANK)) { book.dropAll(); return NONE; }"),
            refused(RefusedCases::bidsBeyondSixteen, "!isWithin(rank, 0, MOST_RANK)) { return NONE; }",
                "!isWithin(rank, 0, MOST_RANK)) { book.bids.set(15, book.bids.get(0)); return NONE; }"),
            refused(RefusedCases::links, "other.partner != NONE) { return false; }",
                "other.partner != NONE) { if (one != null && other != null && a != b) { one.partner = b; } return false; }",
                "other.partner != NONE) { return false; }",
                "other.partner != NONE) { if (one != null && other != null && a != b) { other.partner = a; } return false; }",
                "other.partner != NONE) { return false; }", "other.partner != NONE) { if (a == b && one != null) { one.partner = NONE; } return false; }"),
            refused(RefusedCases::gives, "search.endFor(asked) == NONE) { return false; }",
                "search.endFor(asked) == NONE) { if (asked != null) { asked.hasPath = false; } return false; }",
                "search.endFor(asked) == NONE) { return false; }", "search.endFor(asked) == NONE) { book.dropAll(); return false; }"),
            refused(RefusedCases::drops, "if (asked == null || !asked.hasPath) { return false; }",
                "if (asked == null || !asked.hasPath) { book.dropAll(); return false; }"),
            refused(RefusedCases::bestOfMany, "book.size() > MOST_BIDS_FOR_BEST) { return NONE; }",
                "book.size() > MOST_BIDS_FOR_BEST) { rounds.comeByRank(); return NONE; }"),
            refused(RefusedCases::delays, "!isWithin(minutes, 0, MOST_DELAY)) { return false; }",
                "!isWithin(minutes, 0, MOST_DELAY)) { if (asked != null && line.hasStation(station)) { asked.delays[station] = minutes < 0 ? 0 : 60; } return false; }",
                "!isWithin(minutes, 0, MOST_DELAY)) { return false; }",
                "!isWithin(minutes, 0, MOST_DELAY)) { if (asked != null && station >= line.stations) { asked.delays[asked.from] = 1; } return false; }"),
            refused(RefusedCases::questions, "int bid) { Bid asked = book.at(bid); return asked == null ? NONE",
                "int bid) { Bid asked = book.at(bid); if (asked == null) { book.dropAll(); run.forget(); } return asked == null ? NONE",
                "default: return NONE; } } private static boolean isWithin", "default: line.headwayMinutes = 0; return NONE; } } private static boolean isWithin",
                "if (!isWithin(house, 0, HOUSES - 1)) { return 0; }", "if (!isWithin(house, 0, HOUSES - 1)) { line.worksCame = 0; return 0; }"),
            Case.of("What it is", "An object is used for at most 512 calls after it has been made; what later calls answer is free.",
                RefusedCases::manyCalls, "standing[minute] = 0;", "", "isBlocked[minute] = false;", "", "toOther[i] = 0;", "",
                "hasCome[i] = false; } }", "} }"),
            Case.of("Terms", "The constants: `NONE = -1`: There is none.", RefusedCases::none, "int NONE = -1;", "int NONE = -2;",
                "int NONE = -1;", "int NONE = 0;"));
    }

    private static Case refused(Consumer<Check> asks, String... breaks) {
        return Case.of("Terms", WORDS, asks, breaks);
    }

    /** Four bids on three stations: 0 and 1 have paths, 1 and 3 are linked, 2 finds none. */
    private static FreightPaths desk() {
        FreightPaths x = new FreightPaths(3);
        x.works(0, 3, 4);
        x.headway(2);
        x.tracks(1, 1);
        x.bid(200, 100, 10, 1);
        x.bid(12000, 100, 20, 0);
        x.bid(20110, 7, 30, 2);
        x.bid(31200, 90, 5, 3);
        x.link(1, 3);
        x.give(0);
        x.give(1);
        x.delay(0, 0, 3);
        x.delay(1, 1, 2);
        return x;
    }

    private static String told(FreightPaths x) {
        StringBuilder told = new StringBuilder();
        for (int what = 0; what <= 5; what++) {
            told.append(x.count(what)).append(x.balance(what)).append(what < 3 ? x.why(what) : 0).append(' ');
        }
        int bids = Math.min(6, x.count(1));
        for (int bid = 0; bid < bids; bid++) {
            told.append("bid ").append(bid).append(": ").append(x.find(bid)).append(" path");
            for (int station = 0; station < x.count(0); station++) {
                told.append(' ').append(x.path(bid, station));
            }
            for (int what = 0; what < 5; what++) {
                told.append(' ').append(x.ran(bid, what));
            }
            for (int other = 0; other < bids; other++) {
                told.append(' ').append(x.blame(bid, other));
            }
            told.append("; ");
        }
        return told.toString();
    }

    /** All that can be told of both now, behind a round and behind the best is the same. */
    private static void alike(Check c, FreightPaths x, FreightPaths twin) {
        c.due("all answers", told(x), told(twin));
        c.due("a round", x.round(), twin.round());
        c.due("all answers behind a round", told(x), told(twin));
        c.due("the best", x.best(), twin.best());
        c.due("all answers behind the best", told(x), told(twin));
    }

    private static void sections(Check c) {
        int[][] wrong = {{-1, 5, 8}, {2, 5, 8}, {0, 0, 3}, {0, 3, 0}, {0, 31, 3}, {1, 3, 31}, {1, -1, 3}, {1, 3, -1}, {LOWEST, 5, 8}, {HIGHEST, 5, 8}};
        FreightPaths x = desk();
        for (int[] row : wrong) {
            c.due("section(" + row[0] + ", ..)", x.section(row[0], true, row[1], row[2]), false);
        }
        c.due("section(0, ..) while a path is given", x.section(0, true, 2, 3), false);
        c.due("section(1, ..) while a path is given", x.section(1, true, 30, 30), false);
        alike(c, x, desk());
        FreightPaths free = desk();
        FreightPaths twin = desk();
        for (int bid = 0; bid < 2; bid++) {
            free.drop(bid);
            twin.drop(bid);
        }
        for (int[] row : wrong) {
            c.due("section(" + row[0] + ", ..) with nothing given", free.section(row[0], true, row[1], row[2]), false);
        }
        alike(c, free, twin);
    }

    private static void tracks(Check c) {
        int[][] wrong = {{1, -1}, {1, 10}, {-1, 0}, {3, 0}, {1, LOWEST}, {1, HIGHEST}, {LOWEST, 9}, {HIGHEST, 9}};
        for (int only = -1; only < wrong.length; only++) {
            FreightPaths x = standing();
            for (int i = 0; i < wrong.length; i++) {
                if (only < 0 || only == i) {
                    c.due("tracks(" + wrong[i][0] + ", " + wrong[i][1] + ")", x.tracks(wrong[i][0], wrong[i][1]), false);
                }
            }
            alike(c, x, standing());
        }
    }

    /** One stands at 1, where one track is, and two more would. */
    private static FreightPaths standing() {
        FreightPaths x = Desk.lineWithStanding();
        x.tracks(1, 1);
        for (int i = 0; i < 3; i++) {
            Desk.bid(x, 0, 2, 0, 239);
        }
        x.give(0);
        return x;
    }

    private static void headways(Check c) {
        for (int minutes : new int[] {-1, 10, LOWEST, HIGHEST}) {
            FreightPaths x = desk();
            c.due("headway(" + minutes + ")", x.headway(minutes), false);
            alike(c, x, desk());
        }
    }

    private static void worksOfAll(Check c) {
        int[][] wrong = {{-1, 0, 5}, {2, 0, 5}, {0, -1, 5}, {0, 0, 481}, {0, 5, 5}, {0, 6, 5}, {1, 480, 480}, {1, HIGHEST, LOWEST}};
        FreightPaths x = desk();
        FreightPaths twin = desk();
        for (int came = 1; came <= 10; came++) {
            for (int[] row : wrong) {
                c.due("works(" + row[0] + ", " + row[1] + ", " + row[2] + ")", x.works(row[0], row[1], row[2]), false);
            }
            if (came < 10) {
                c.due("works", x.works(0, 200 + came, 201 + came), true);
                twin.works(0, 200 + came, 201 + came);
            }
        }
        c.due("the eleventh", x.works(0, 0, 480), false);
        c.due("the eleventh in the other section", x.works(1, 0, 480), false);
        alike(c, x, twin);
    }

    private static void bids(Check c) {
        int[][] wrong = {{0, 239, 1, 1}, {101, 239, 1, 1}, {-100, 239, 1, 1}, {300, 239, 1, 1}, {60100, 239, 1, 1}, {120, 239, 1, 1},
            {100, 240, 1, 1}, {100, 240000, 1, 1}, {100, -1, 1, 1}, {100, 239, -1, 1}, {100, 239, 1001, 1}, {100, 239, 1, -1},
            {100, 239, 1, 100}, {LOWEST, LOWEST, LOWEST, LOWEST}, {HIGHEST, HIGHEST, HIGHEST, HIGHEST}};
        FreightPaths x = desk();
        for (int[] row : wrong) {
            c.due("bid(" + row[0] + ", " + row[1] + ", " + row[2] + ", " + row[3] + ")", x.bid(row[0], row[1], row[2], row[3]), Desk.NONE);
        }
        FreightPaths twin = desk();
        c.due("the next number", x.bid(100, 239, 1, 1), twin.bid(100, 239, 1, 1));
        alike(c, x, twin);
    }

    private static FreightPaths fullDesk() {
        FreightPaths x = new FreightPaths(2);
        for (int i = 0; i < 16; i++) {
            x.bid(10000 * (i % 6) + (i % 2 == 0 ? 100 : 1000), 12 * i * 1000 + 239, i, i);
        }
        x.link(0, 15);
        x.round();
        x.drop(15);
        return x;
    }

    private static void bidsBeyondSixteen(Check c) {
        FreightPaths x = fullDesk();
        c.due("one more", x.bid(100, 5, 1, 0), Desk.NONE);
        FreightPaths twin = fullDesk();
        for (int bid = 0; bid < 16; bid++) {
            c.due("find(" + bid + ")", x.find(bid), twin.find(bid));
            c.due("path(" + bid + ", 0)", x.path(bid, 0), twin.path(bid, 0));
            c.due("ran(" + bid + ", 0)", x.ran(bid, 0), twin.ran(bid, 0));
        }
        c.due("worths", x.count(3), twin.count(3));
        c.due("a round", x.round(), twin.round());
    }

    /** 0 and 2 are free, 1 and 3 are linked: none of the refused ones may bind or loosen one of them. */
    private static void links(Check c) {
        int[][] wrong = {{0, 0}, {1, 1}, {0, 1}, {1, 0}, {0, 3}, {3, 0}, {2, 1}, {2, 3}, {0, 4}, {4, 0}, {-1, 0}, {0, -1}, {3, 1}, {LOWEST, HIGHEST}};
        for (int[] row : wrong) {
            FreightPaths x = desk();
            c.due("link(" + row[0] + ", " + row[1] + ")", x.link(row[0], row[1]), false);
            alike(c, x, desk());
            c.due("link(0, 2) behind that", x.link(0, 2), true);
            FreightPaths twin = desk();
            twin.link(0, 2);
            twin.round();
            c.due("a round behind that", x.round(), twin.count(2));
        }
    }

    private static void gives(Check c) {
        for (int bid : new int[] {2, 4, -1, 16, LOWEST, HIGHEST}) {
            FreightPaths x = desk();
            c.due("give(" + bid + ")", x.give(bid), false);
            alike(c, x, desk());
        }
        FreightPaths x = desk();
        FreightPaths twin = desk();
        x.works(0, 0, 96);
        twin.works(0, 0, 96);
        c.due("give(0) when there is none any more", x.give(0), false);
        c.due("give(1) when there is none any more", x.give(1), false);
        alike(c, x, twin);
    }

    private static void drops(Check c) {
        for (int bid : new int[] {2, 3, 4, -1, 16, LOWEST, HIGHEST}) {
            FreightPaths x = desk();
            c.due("drop(" + bid + ")", x.drop(bid), false);
            alike(c, x, desk());
        }
    }

    private static void bestOfMany(Check c) {
        FreightPaths x = desk();
        FreightPaths twin = desk();
        for (int i = 0; i < 2; i++) {
            x.bid(40200, 100, 1000, 0);
            twin.bid(40200, 100, 1000, 0);
        }
        x.delay(4, 0, 1);
        twin.delay(4, 0, 1);
        c.due("the best", x.best(), Desk.NONE);
        alike(c, x, twin);
        FreightPaths none = new FreightPaths(2);
        c.due("the best of none", none.best(), Desk.NONE);
        c.due("all answers", told(none), told(new FreightPaths(2)));
    }

    private static void delays(Check c) {
        int[][] wrong = {{0, 0, -1}, {0, 0, 61}, {0, 1, 61}, {0, -1, 1}, {0, 3, 1}, {4, 0, 1}, {-1, 0, 1}, {0, 0, LOWEST}, {0, HIGHEST, 1}};
        for (int[] row : wrong) {
            FreightPaths x = desk();
            c.due("delay(" + row[0] + ", " + row[1] + ", " + row[2] + ")", x.delay(row[0], row[1], row[2]), false);
            alike(c, x, desk());
        }
    }

    private static void questions(Check c) {
        FreightPaths x = desk();
        for (int none : Desk.NO_BIDS) {
            c.due("find(" + none + ")", x.find(none), Desk.NONE);
            c.due("path(" + none + ", 0)", x.path(none, 0), Desk.NONE);
            c.due("ran(" + none + ", 0)", x.ran(none, 0), Desk.NONE);
            c.due("blame(" + none + ", 0)", x.blame(none, 0), Desk.NONE);
            c.due("why(" + none + ")", x.why(none), Desk.NONE);
            c.due("count(" + none + ")", x.count(none), Desk.NONE);
            c.due("balance(" + none + ")", x.balance(none), 0);
        }
        alike(c, x, desk());
    }

    /** The same 17 calls again and again answer the same, up to the 512th. */
    private static void manyCalls(Check c) {
        FreightPaths x = Desk.lineWithStanding();
        x.tracks(1, 1);
        Desk.bid(x, 0, 2, 0, 239);
        x.bid(10200, 239, 1, 1);
        int calls = 5;
        while (calls + 17 <= 512) {
            c.due("round()", x.round(), 2);
            c.path(x, 0, 5, 20, 25);
            c.path(x, 1, 40, 45, 50);
            c.due("drop(0)", x.drop(0), true);
            c.due("give(0)", x.give(0), true);
            c.due("delay(0, 0, 45)", x.delay(0, 0, 45), true);
            c.due("ran(1, 4)", x.ran(1, 4), 0);
            c.due("ran(0, 4)", x.ran(0, 4), 0);
            c.due("delay(0, 0, 34)", x.delay(0, 0, 34), true);
            c.due("blame(1, 0)", x.blame(1, 0), 5);
            c.due("best()", x.best(), 2);
            c.due("find(1)", x.find(1), 50);
            c.due("why(0)", x.why(0), Desk.NONE);
            calls += 17;
        }
        while (calls < 512) {
            calls++;
            c.due("call " + calls, x.find(1), 50);
        }
    }

    /** By the class itself: what is written as its name here was put in when this was compiled. */
    private static void none(Check c) {
        try {
            c.due("NONE", FreightPaths.class.getField("NONE").getInt(null), -1);
        } catch (ReflectiveOperationException e) {
            c.wrong.add("threw " + e);
        }
        c.due("find(0)", new FreightPaths(2).find(0), -1);
        c.due("bid(0, 0, 0, 0)", new FreightPaths(2).bid(0, 0, 0, 0), -1);
    }
}
