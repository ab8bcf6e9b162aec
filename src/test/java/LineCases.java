import java.util.List;

/** The line: stations, sections, tracks, headway and works, and what is counted of them. */
final class LineCases {
    private static final int NONE = Desk.NONE;
    private static final int LOWEST = Desk.LOWEST;
    private static final int HIGHEST = Desk.HIGHEST;

    private LineCases() {
    }

    static List<Case> all() {
        return List.of(
            Case.of("Terms 1", "STATIONS are 0 .. n - 1 (n 2 .. 8);", LineCases::stationsAreNumbered,
                "station >= 0 && station < stations;", "station > 0 && station < stations;",
                "station >= 0 && station < stations;", "station >= 0 && station <= stations;",
                "station >= 0 && station < stations;", "station >= 0 && station < stations - 1;",
                "first < stations && last < stations", "first <= stations && last < stations",
                "first < stations && last < stations", "first < stations && last <= stations"),
            Case.of("Terms 1", "SECTION k is between k and k + 1:", LineCases::sectionsAreBetween,
                "section >= 0 && section < stations - 1;", "section >= 0 && section < stations;",
                "section >= 0 && section < stations - 1;", "section >= 0 && section < stations - 2;",
                "to > from ? from + step : from - step - 1", "to > from ? from + step : from - step",
                "to > from ? from + step : from - step - 1", "to > from ? from + step + 1 : from - step - 1"),
            Case.of("Terms 1", "SINGLE (at first) or DOUBLE,", LineCases::singleAtFirst,
                "isDouble[section] = twoWays;", "isDouble[section] = false;",
                "isDouble[section] = twoWays;", "isDouble[section] = isDouble[section] || twoWays;",
                "fastMinutes[i] = 5;", "fastMinutes[i] = 5; isDouble[i] = true;"),
            Case.of("Terms 1", "so many MINUTES long for a FAST train (KIND 0; 5 at first), for a SLOW one (KIND 1; 8 at first).",
                LineCases::minutesAtFirst,
                "fastMinutes[i] = 5;", "fastMinutes[i] = 6;", "slowMinutes[i] = 8;", "slowMinutes[i] = 7;",
                "bid.kind == 0 ?", "bid.kind != 0 ?",
                "for (int i = 0; i < MOST_STATIONS; i++) { fast", "for (int i = 0; i < stations - 2; i++) { fast"),
            Case.of("Terms 1", "A STATION has TRACKS (2 at first).", LineCases::tracksAtFirst,
                "tracksAt[i] = 2;", "tracksAt[i] = 1;", "tracksAt[i] = 2;", "tracksAt[i] = 3;"),
            Case.of("Terms 1", "HEADWAY is 0 .. 9 (1 at first).", LineCases::headwayAtFirst,
                "int headwayMinutes = 1;", "int headwayMinutes = 0;", "int headwayMinutes = 1;", "int headwayMinutes = 2;",
                "MOST_HEADWAY = 9", "MOST_HEADWAY = 8", "MOST_HEADWAY = 9", "MOST_HEADWAY = 10",
                "isWithin(minutes, 0, MOST_HEADWAY)", "isWithin(minutes, 1, MOST_HEADWAY)"),
            Case.of("Terms 1", "WORKS close a SECTION from a minute to another one (that one not).", LineCases::worksCloseMinutes,
                "line.worksTo[i] - 1)", "line.worksTo[i])", "line.worksTo[i] - 1)", "line.worksTo[i] - 2)",
                "line.worksFrom[i] - length + 1", "line.worksFrom[i] - length",
                "line.worksFrom[i] - length + 1", "line.worksFrom[i] - length + 2",
                "minute >= worksFrom[i] && minute < worksTo[i]", "minute > worksFrom[i] && minute < worksTo[i]",
                "minute >= worksFrom[i] && minute < worksTo[i]", "minute >= worksFrom[i] && minute <= worksTo[i]",
                "worksSection[i] == section && minute", "minute"),
            Case.of("Promise 1", "A line of so many STATIONS (2 .. 8;", LineCases::soManyStations,
                "LEAST_STATIONS = 2", "LEAST_STATIONS = 3", "MOST_STATIONS = 8", "MOST_STATIONS = 7"),
            Case.of("Promise 1", "others count as the nearest).", LineCases::othersCountAsTheNearest,
                "LEAST_STATIONS = 2", "LEAST_STATIONS = 1", "MOST_STATIONS = 8", "MOST_STATIONS = 9",
                "Math.max(LEAST_STATIONS, Math.min(MOST_STATIONS, stations))",
                "stations < LEAST_STATIONS || stations > MOST_STATIONS ? LEAST_STATIONS : stations",
                "Math.max(LEAST_STATIONS, Math.min(MOST_STATIONS, stations))",
                "stations < LEAST_STATIONS || stations > MOST_STATIONS ? MOST_STATIONS : stations"),
            Case.of("Promise 2", "A SECTION is SINGLE or DOUBLE, with MINUTES (1 .. 30 each): true;", LineCases::sectionIsSet,
                "isWithin(fast, 1, MOST", "isWithin(fast, 2, MOST", "isWithin(slow, 1, MOST", "isWithin(slow, 2, MOST",
                "MOST_SECTION_MINUTES = 30", "MOST_SECTION_MINUTES = 29",
                "fastMinutes[section] = fast;", "fastMinutes[section] = slow;",
                "slowMinutes[section] = slow;", "slowMinutes[section] = fast;"),
            Case.of("Promise 2", "false if that can't be,", LineCases::sectionThatCantBe,
                "isWithin(fast, 1, MOST", "isWithin(fast, 0, MOST", "isWithin(slow, 1, MOST", "isWithin(slow, 0, MOST",
                "MOST_SECTION_MINUTES = 30", "MOST_SECTION_MINUTES = 31",
                "section >= 0 && section < stations - 1;", "section >= -1 && section < stations - 1;",
                "section >= 0 && section < stations - 1;", "section >= 0 && section < stations;",
                "section >= 0 && section < stations - 1;", "section >= 0 && section + 1 < stations;"),
            Case.of("Promise 2", "or a PATH is GIVEN.", LineCases::sectionWhileGiven,
                "book.pathsGiven() > 0", "book.pathsGiven() > 1", "book.pathsGiven() > 0", "book.size() > 0"),
            Case.of("Promise 3", "A STATION's TRACKS (0 .. 9): true;", LineCases::tracksAreSet,
                "isWithin(n, 0, MOST_TRACKS)", "isWithin(n, 1, MOST_TRACKS)", "MOST_TRACKS = 9", "MOST_TRACKS = 8",
                "line.tracksAt[station] = n;", "line.tracksAt[station] = n + 1;", "line.tracksAt[station] = n;", ""),
            Case.of("Promise 3", "false if that can't be.", LineCases::tracksThatCantBe,
                "isWithin(n, 0, MOST_TRACKS)", "isWithin(n, -1, MOST_TRACKS)", "MOST_TRACKS = 9", "MOST_TRACKS = 10",
                "station >= 0 && station < stations;", "station >= -1 && station < stations;",
                "station >= 0 && station < stations;", "station >= 0 && station <= stations;"),
            Case.of("Promise 4", "HEADWAY: true;", LineCases::headwayIsSet,
                "line.headwayMinutes = minutes;", "line.headwayMinutes = Math.max(1, minutes);",
                "line.headwayMinutes = minutes;", "line.headwayMinutes = Math.min(8, minutes);",
                "if (!isWithin(minutes, 0, MOST_HEADWAY))", "if (book.pathsGiven() > 0 || !isWithin(minutes, 0, MOST_HEADWAY))"),
            Case.of("Promise 4", "false if it can't be.", LineCases::headwayThatCantBe,
                "isWithin(minutes, 0, MOST_HEADWAY)", "isWithin(minutes, -1, MOST_HEADWAY)",
                "MOST_HEADWAY = 9", "MOST_HEADWAY = 10"),
            Case.of("Promise 5", "WORKS close a SECTION from a minute to another one (0 .. 480): true;", LineCases::worksComeWithin,
                "from < 0 || to > RUN_MINUTES", "from <= 0 || to > RUN_MINUTES",
                "from < 0 || to > RUN_MINUTES", "from < 0 || to >= RUN_MINUTES",
                "to <= from ||", "to <= from + 1 ||"),
            Case.of("Promise 5", "false if there is none such,", LineCases::worksThatAreNone,
                "from < 0 || to > RUN_MINUTES", "from < -1 || to > RUN_MINUTES",
                "from < 0 || to > RUN_MINUTES", "from < 0 || to > RUN_MINUTES + 1",
                "section >= 0 && section < stations - 1;", "section >= -1 && section < stations - 1;",
                "section >= 0 && section < stations - 1;", "section >= 0 && section < stations;"),
            Case.of("Promise 5", "the second one isn't above the first one,", LineCases::worksBackwards,
                "to <= from ||", "to < from ||", "to <= from ||", "to - from <= 0 ||", "to <= from ||", ""),
            Case.of("Promise 5", "or 10 came.", LineCases::tenWorksCame,
                "line.worksCame >= MOST_WORKS", "line.worksCame > MOST_WORKS", "MOST_WORKS = 10", "MOST_WORKS = 9",
                "MOST_WORKS = 10", "MOST_WORKS = 11"),
            Case.of("Promise 19", "0 STATIONS,", LineCases::countStations, "return line.stations;", "return line.stations - 1;"),
            Case.of("Promise 19", "1 BIDS,", LineCases::countBids, "case 1: return book.size();", "case 1: return book.pathsGiven();"),
            Case.of("Promise 19", "2 PATHS that are GIVEN,", LineCases::countPaths,
                "case 2: return book.pathsGiven();", "case 2: return book.size();"),
            Case.of("Promise 19", "3 their WORTHS,", LineCases::countWorths,
                "case 3: return book.worthsGiven();", "case 3: return book.pathsGiven();",
                "worths += bids.get(i).hasPath ? bids.get(i).worth : 0;", "worths += bids.get(i).worth;"),
            Case.of("Promise 19", "4 WORKS,", LineCases::countWorks, "return line.worksCame;", "return line.worksCame + 1;"),
            Case.of("Promise 19", "5 HEADWAY.", LineCases::countHeadway, "return line.headwayMinutes;", "return line.holdBehind();"),
            Case.of("Promise 19", "NONE for others.", LineCases::countOthers,
                "default: return NONE; } } private static boolean isWithin", "default: return 0; } } private static boolean isWithin",
                "case 0: return line.stations;", "case -1: case 0: return line.stations;",
                "case 5: return line.headwayMinutes;", "case 5: case 6: return line.headwayMinutes;"));
    }

    private static void stationsAreNumbered(Check c) {
        for (int n = 2; n <= 8; n++) {
            FreightPaths x = new FreightPaths(n);
            c.due("stations", x.count(0), n);
            c.due(n + " stations: tracks(-1, 1)", x.tracks(-1, 1), false);
            c.due(n + " stations: tracks(n, 1)", x.tracks(n, 1), false);
            for (int station = 0; station < n; station++) {
                c.due(n + " stations: tracks(" + station + ", 1)", x.tracks(station, 1), true);
            }
            c.due(n + " stations: from 0 to n", Desk.bid(x, 0, n, 0, 239), NONE);
            c.due(n + " stations: from n to 0", Desk.bid(x, n, 0, 0, 239), NONE);
            c.due(n + " stations: from 0 to n - 1", Desk.bid(x, 0, n - 1, 0, 239), 0);
            c.due(n + " stations: from n - 1 to 0", Desk.bid(x, n - 1, 0, 0, 239), 1);
            c.due(n + " stations: delay at 0", x.delay(0, 0, 0), true);
            c.due(n + " stations: delay at n - 1", x.delay(0, n - 1, 0), true);
            c.due(n + " stations: delay at n", x.delay(0, n, 0), false);
        }
    }

    private static void sectionsAreBetween(Check c) {
        for (int n = 2; n <= 8; n++) {
            FreightPaths x = new FreightPaths(n);
            c.due(n + " stations: section(-1, ..)", x.section(-1, false, 5, 8), false);
            c.due(n + " stations: section(n - 1, ..)", x.section(n - 1, false, 5, 8), false);
            c.due(n + " stations: works(n - 1, ..)", x.works(n - 1, 0, 1), false);
            for (int k = 0; k < n - 1; k++) {
                c.due(n + " stations: section(" + k + ", ..)", x.section(k, false, 5, 8), true);
            }
            c.due(n + " stations: works(n - 2, ..)", x.works(n - 2, 0, 1), true);
        }
        for (int k = 0; k < 7; k++) {
            FreightPaths x = new FreightPaths(8);
            x.works(k, 0, 480);
            for (int low = 0; low < 7; low++) {
                int end = low == k ? NONE : 5;
                c.due("section " + k + " is closed: up from " + low, x.find(Desk.bid(x, low, low + 1, 0, 239)), end);
                c.due("section " + k + " is closed: down to " + low, x.find(Desk.bid(x, low + 1, low, 0, 239)), end);
            }
        }
    }

    private static void singleAtFirst(Check c) {
        for (int k = 0; k < 7; k++) {
            FreightPaths x = new FreightPaths(8);
            Desk.bid(x, k, k + 1, 0, 239);
            Desk.bid(x, k + 1, k, 0, 239);
            x.give(0);
            c.due("section " + k + " at first, the other way", x.find(1), 10);
            x.drop(0);
            x.section(k, true, 5, 8);
            x.give(0);
            c.due("section " + k + " is double", x.find(1), 5);
            x.drop(0);
            x.section(k, false, 5, 8);
            x.give(0);
            c.due("section " + k + " is single again", x.find(1), 10);
        }
    }

    private static void minutesAtFirst(Check c) {
        for (int k = 0; k < 7; k++) {
            FreightPaths x = new FreightPaths(8);
            c.due("fast up from " + k, x.find(Desk.bid(x, k, k + 1, 0, 239)), 5);
            c.due("fast down to " + k, x.find(Desk.bid(x, k + 1, k, 0, 239)), 5);
            c.due("slow up from " + k, x.find(Desk.slow(x, k, k + 1, 0, 239)), 8);
            c.due("slow down to " + k, x.find(Desk.slow(x, k + 1, k, 0, 239)), 8);
        }
    }

    /** With standing enough for three, the third one finds two tracks full. */
    private static void tracksAtFirst(Check c) {
        FreightPaths x = new FreightPaths(3);
        x.works(0, 15, 60);
        x.works(1, 0, 30);
        for (int i = 0; i < 3; i++) {
            Desk.bid(x, 0, 2, 0, 239);
        }
        c.due("two are given", x.give(0) && x.give(1), true);
        c.path(x, 0, 10, 30, 35);
        c.path(x, 1, 5, 35, 40);
        c.due("the third one", x.find(2), 70);
        x.tracks(1, 3);
        c.due("the third one with three tracks", x.find(2), 45);
        x.tracks(1, 2);
        c.due("the third one with two tracks again", x.find(2), 70);
    }

    private static void headwayAtFirst(Check c) {
        FreightPaths x = new FreightPaths(2);
        c.due("headway at first", x.count(5), 1);
        Desk.bid(x, 0, 1, 0, 239);
        Desk.bid(x, 0, 1, 0, 239);
        x.give(0);
        c.due("right behind it at first", x.find(1), 10);
        c.due("headway(-1)", x.headway(-1), false);
        c.due("headway(10)", x.headway(10), false);
        c.due("headway is still", x.count(5), 1);
        for (int minutes = 0; minutes <= 9; minutes++) {
            c.due("headway(" + minutes + ")", x.headway(minutes), true);
            c.due("headway is", x.count(5), minutes);
        }
    }

    private static void worksCloseMinutes(Check c) {
        FreightPaths x = new FreightPaths(3);
        x.works(0, 10, 13);
        c.due("out of it in minute 10", x.find(Desk.bid(x, 0, 1, 5, 239)), 10);
        c.due("in it in minute 10 can't be", x.find(Desk.bid(x, 0, 1, 6, 239)), 18);
        c.due("in it in minute 12 can't be", x.find(Desk.bid(x, 0, 1, 12, 239)), 18);
        c.due("in minute 13 it is open", x.find(Desk.bid(x, 0, 1, 13, 239)), 18);
        c.due("the other section is open", x.find(Desk.bid(x, 1, 2, 10, 239)), 15);
        int[] held = {0, 3, 2, 1, 0};
        for (int i = 0; i < held.length; i++) {
            FreightPaths y = new FreightPaths(3);
            Desk.bid(y, 0, 1, 9 + i, 239);
            Desk.bid(y, 1, 2, 10, 239);
            y.give(0);
            y.give(1);
            y.works(0, 10, 13);
            c.due("the train of minute " + (9 + i) + " is held so long", y.ran(0, 3), held[i]);
            c.due("the train in the other section isn't held", y.ran(1, 3), 0);
        }
    }

    private static void soManyStations(Check c) {
        for (int n = 2; n <= 8; n++) {
            FreightPaths x = new FreightPaths(n);
            c.due("stations of " + n, x.count(0), n);
            c.due("the longest way of " + n, x.find(Desk.bid(x, 0, n - 1, 0, 239)), 5 * (n - 1));
        }
    }

    private static void othersCountAsTheNearest(Check c) {
        for (int n : new int[] {LOWEST, LOWEST + 2, -2, -1, 0, 1}) {
            c.due("stations of " + n, new FreightPaths(n).count(0), 2);
        }
        for (int n : new int[] {9, 10, 16, HIGHEST - 1, HIGHEST}) {
            FreightPaths x = new FreightPaths(n);
            c.due("stations of " + n, x.count(0), 8);
            c.due("the last station of " + n, x.tracks(7, 1), true);
            c.due("no station of " + n, x.tracks(8, 1), false);
        }
    }

    private static void sectionIsSet(Check c) {
        FreightPaths x = new FreightPaths(3);
        Desk.bid(x, 0, 2, 0, 239);
        Desk.slow(x, 0, 2, 0, 239);
        int[][] lengths = {{1, 1}, {1, 30}, {30, 1}, {30, 30}, {2, 29}};
        for (int[] row : lengths) {
            for (boolean isDouble : new boolean[] {false, true}) {
                c.due("section(0, " + isDouble + ", " + row[0] + ", " + row[1] + ")", x.section(0, isDouble, row[0], row[1]), true);
                c.due("fast", x.find(0), row[0] + 5);
                c.due("slow", x.find(1), row[1] + 8);
            }
        }
        c.due("section(1, ..)", x.section(1, false, 30, 30), true);
        c.due("fast with both", x.find(0), 32);
        c.due("slow with both", x.find(1), 59);
    }

    private static void sectionThatCantBe(Check c) {
        FreightPaths x = new FreightPaths(4);
        for (int k : new int[] {LOWEST, -1, 3, 4, 7, 8, HIGHEST - 1, HIGHEST}) {
            c.due("section(" + k + ", ..)", x.section(k, true, 5, 8), false);
        }
        for (int minutes : new int[] {LOWEST, -1, 0, 31, 32, 256 + 5, HIGHEST}) {
            c.due("section with fast " + minutes, x.section(0, true, minutes, 8), false);
            c.due("section with slow " + minutes, x.section(0, true, 5, minutes), false);
            c.due("section with both " + minutes, x.section(0, true, minutes, minutes), false);
        }
    }

    private static void sectionWhileGiven(Check c) {
        FreightPaths x = new FreightPaths(4);
        Desk.bid(x, 0, 1, 0, 239);
        Desk.bid(x, 0, 1, 0, 239);
        c.due("bids alone don't matter", x.section(0, false, 5, 8), true);
        x.give(0);
        c.due("one is given", x.section(0, false, 5, 8), false);
        c.due("another section, where none goes", x.section(2, false, 5, 8), false);
        x.give(1);
        x.drop(0);
        c.due("another one is given", x.section(0, false, 5, 8), false);
        x.drop(1);
        c.due("none is given any more", x.section(0, false, 6, 8), true);
        x.round();
        c.due("given by a round", x.section(0, false, 5, 8), false);
        x.drop(0);
        x.drop(1);
        c.due("dropped", x.section(0, false, 7, 8), true);
        x.best();
        c.due("given by the best", x.section(0, false, 5, 8), false);
    }

    /** Up to ten trains must stand at 1 together, from minute 50 on till 100, or go behind minute 200. */
    private static void tracksAreSet(Check c) {
        for (int tracks = 0; tracks <= 9; tracks++) {
            FreightPaths x = new FreightPaths(3);
            x.works(0, 50, 200);
            x.works(1, 0, 100);
            c.due("tracks(1, " + tracks + ")", x.tracks(1, tracks), true);
            for (int i = 0; i < tracks; i++) {
                Desk.bid(x, 0, 2, 0, 239);
                x.give(i);
                c.due("with " + tracks + " tracks number " + i + " comes", x.path(i, 2), 105 + 5 * i);
            }
            Desk.bid(x, 0, 2, 0, 239);
            c.due("with " + tracks + " tracks one more comes", x.find(tracks), 210);
        }
    }

    private static void tracksThatCantBe(Check c) {
        FreightPaths x = new FreightPaths(3);
        for (int station : new int[] {LOWEST, -1, 3, 4, 7, 8, HIGHEST}) {
            c.due("tracks(" + station + ", 1)", x.tracks(station, 1), false);
        }
        for (int n : new int[] {LOWEST, -1, 10, 11, HIGHEST}) {
            c.due("tracks(0, " + n + ")", x.tracks(0, n), false);
            c.due("tracks(2, " + n + ")", x.tracks(2, n), false);
        }
    }

    private static void headwayIsSet(Check c) {
        FreightPaths x = new FreightPaths(2);
        Desk.bid(x, 0, 1, 0, 239);
        Desk.bid(x, 0, 1, 0, 239);
        x.give(0);
        int[] behind = {10, 10, 11, 12, 13, 14, 15, 16, 17, 18};
        for (int minutes = 9; minutes >= 0; minutes--) {
            c.due("headway(" + minutes + ") while one is given", x.headway(minutes), true);
            c.due("headway is", x.count(5), minutes);
            c.due("behind it with headway " + minutes, x.find(1), behind[minutes]);
        }
    }

    private static void headwayThatCantBe(Check c) {
        FreightPaths x = new FreightPaths(2);
        x.headway(4);
        for (int minutes : new int[] {LOWEST, -2, -1, 10, 11, HIGHEST}) {
            c.due("headway(" + minutes + ")", x.headway(minutes), false);
            c.due("headway stays", x.count(5), 4);
        }
    }

    private static void worksComeWithin(Check c) {
        FreightPaths x = new FreightPaths(2);
        c.due("works(0, 0, 1)", x.works(0, 0, 1), true);
        c.due("works(0, 479, 480)", x.works(0, 479, 480), true);
        c.due("works(0, 0, 480)", x.works(0, 0, 480), true);
        c.due("works(0, 239, 240)", x.works(0, 239, 240), true);
        c.due("the same again", x.works(0, 0, 480), true);
        c.due("so many came", x.count(4), 5);
        FreightPaths y = new FreightPaths(2);
        Desk.ranked(y, 0, 0, 0);
        Desk.ranked(y, 1, 0, 1);
        y.round();
        y.works(0, 0, 478);
        c.due("held by the first one in 478 and 479", y.blame(1, 0), 2);
        y.works(0, 479, 480);
        c.due("minute 479 is closed", y.blame(1, 0), 1);
    }

    private static void worksThatAreNone(Check c) {
        FreightPaths x = new FreightPaths(4);
        for (int k : new int[] {LOWEST, -1, 3, 4, 7, 8, HIGHEST}) {
            c.due("works(" + k + ", 0, 5)", x.works(k, 0, 5), false);
        }
        int[][] minutes = {{-1, 5}, {LOWEST, 5}, {0, 481}, {479, 481}, {480, 481}, {0, HIGHEST}, {-1, 481}, {LOWEST, HIGHEST}};
        for (int[] row : minutes) {
            c.due("works(0, " + row[0] + ", " + row[1] + ")", x.works(0, row[0], row[1]), false);
        }
        c.due("none came", x.count(4), 0);
    }

    private static void worksBackwards(Check c) {
        FreightPaths x = new FreightPaths(2);
        int[][] minutes = {{0, 0}, {5, 5}, {480, 480}, {6, 5}, {480, 0}, {480, 479}, {0, -1}, {0, LOWEST}, {HIGHEST, LOWEST},
            {HIGHEST, 0}, {HIGHEST, HIGHEST}};
        for (int[] row : minutes) {
            c.due("works(0, " + row[0] + ", " + row[1] + ")", x.works(0, row[0], row[1]), false);
        }
        c.due("none came", x.count(4), 0);
    }

    private static void tenWorksCame(Check c) {
        FreightPaths x = new FreightPaths(3);
        for (int i = 0; i < 10; i++) {
            c.due("one that is refused doesn't count", x.works(0, 5, 5), false);
            c.due("works number " + i, x.works(i % 2, 20 * i, 20 * i + 1), true);
        }
        c.due("the eleventh", x.works(0, 300, 301), false);
        c.due("the eleventh in the other section", x.works(1, 300, 301), false);
        c.due("ten came", x.count(4), 10);
        c.due("the tenth closes its section", x.find(Desk.bid(x, 1, 2, 180, 239)), 186);
        c.due("a minute that is closed by none", x.find(Desk.bid(x, 0, 1, 180, 239)), 185);
    }

    private static void countStations(Check c) {
        for (int n = 2; n <= 8; n++) {
            c.due("count(0) of " + n, new FreightPaths(n).count(0), n);
        }
    }

    private static void countBids(Check c) {
        FreightPaths x = new FreightPaths(2);
        for (int i = 0; i < 16; i++) {
            c.due("count(1)", x.count(1), i);
            Desk.bid(x, 0, 1, 0, 239);
        }
        c.due("count(1) when 16 came", x.count(1), 16);
        Desk.bid(x, 0, 1, 0, 239);
        c.due("count(1) when one more was refused", x.count(1), 16);
    }

    private static void countPaths(Check c) {
        FreightPaths x = new FreightPaths(2);
        c.due("count(2) without bids", x.count(2), 0);
        for (int i = 0; i < 16; i++) {
            Desk.bid(x, 0, 1, 0, 239);
        }
        c.due("count(2) of what isn't given", x.count(2), 0);
        c.due("a round", x.round(), 16);
        c.due("count(2) of all", x.count(2), 16);
        x.drop(15);
        c.due("count(2) but for one", x.count(2), 15);
    }

    private static void countWorths(Check c) {
        FreightPaths x = new FreightPaths(2);
        c.due("count(3) without bids", x.count(3), 0);
        for (int i = 0; i < 16; i++) {
            x.bid(100, 239, i == 3 ? 0 : 1000, 0);
        }
        c.due("count(3) of what isn't given", x.count(3), 0);
        x.give(3);
        c.due("count(3) of a worth of 0", x.count(3), 0);
        x.round();
        c.due("count(3) of all", x.count(3), 15000);
        x.drop(0);
        c.due("count(3) but for one", x.count(3), 14000);
    }

    private static void countWorks(Check c) {
        FreightPaths x = new FreightPaths(2);
        for (int i = 0; i < 10; i++) {
            c.due("count(4)", x.count(4), i);
            x.works(0, 1, 2);
        }
        c.due("count(4) when ten came", x.count(4), 10);
    }

    private static void countHeadway(Check c) {
        FreightPaths x = new FreightPaths(2);
        c.due("count(5) at first", x.count(5), 1);
        x.headway(0);
        c.due("count(5) of the least", x.count(5), 0);
        x.headway(9);
        c.due("count(5) of the most", x.count(5), 9);
    }

    private static void countOthers(Check c) {
        FreightPaths x = new FreightPaths(5);
        x.works(0, 1, 2);
        for (int what : new int[] {LOWEST, -6, -2, -1, 6, 7, 256, HIGHEST}) {
            c.due("count(" + what + ")", x.count(what), NONE);
        }
    }
}
