import java.util.List;

/** Bids as they come, and links between them. */
final class BidCases {
    private static final int NONE = Desk.NONE;
    private static final int LOWEST = Desk.LOWEST;
    private static final int HIGHEST = Desk.HIGHEST;

    private BidCases() {
    }

    static List<Case> all() {
        return List.of(
            Case.of("Terms 1", "Minutes are 0 .. 239.", BidCases::minutesOfTheDay,
                "when / 1000 < DAY_MINUTES", "when / 1000 <= DAY_MINUTES", "when % 1000 < DAY_MINUTES", "when % 1000 <= DAY_MINUTES",
                "DAY_MINUTES = 240", "DAY_MINUTES = 239", "Math.max(first, 0)", "Math.max(first, 1)",
                "Math.min(last, DAY_MINUTES - 1)", "Math.min(last, DAY_MINUTES - 7)"),
            Case.of("Terms 1", "BIDS have numbers as they come, at most 16:", BidCases::numbersAsTheyCome,
                "book.size() >= MOST_BIDS", "book.size() > MOST_BIDS", "MOST_BIDS = 16", "MOST_BIDS = 15",
                "new Bid(book.size(), what", "new Bid(book.size() + 1, what"),
            Case.of("Terms 1", "a HOUSE (0 .. 5),", BidCases::houses,
                "what / 10000 >= HOUSES", "what / 10000 > HOUSES", "HOUSES = 6", "HOUSES = 5", "HOUSES = 6", "HOUSES = 7"),
            Case.of("Terms 1", "from which STATION to which other one,", BidCases::fromOneToAnother,
                " && first != last", "", "first != last", "first < last"),
            Case.of("Terms 1", "a KIND,", BidCases::kinds,
                "what / 10 % 10 >= KINDS", "what / 10 % 10 > KINDS", "KINDS = 2", "KINDS = 1", "KINDS = 2", "KINDS = 3"),
            Case.of("Terms 1", "the earliest minute of leaving, the latest of coming,", BidCases::earliestAndLatest,
                "this.earliest = when / 1000;", "this.earliest = when / 1000 + 1;", "this.latest = when % 1000;", "this.latest = when % 1000 - 1;",
                "this.latest = when % 1000;", "this.latest = when % 1000 + 1;"),
            Case.of("Terms 1", "a WORTH, a RANK;", BidCases::worthAndRank,
                "this.worth = worth;", "this.worth = rank;", "this.rank = rank;", "this.rank = worth;"),
            Case.of("Terms 1", "two may be LINKED (each with one at most).", BidCases::linkedWithOneAtMost,
                "|| one.partner != NONE", "", "|| other.partner != NONE", ""),
            Case.of("Promise 6", "A BID comes: its number.", BidCases::itsNumber,
                "return coming.number;", "return book.size();", "book.add(coming);", ""),
            Case.of("Promise 6", "What it is is HOUSE * 10000 + from * 1000 + to * 100 + KIND * 10", BidCases::whatItIs,
                "this.house = what / 10000;", "this.house = what / 1000 % 10;", "this.house = what / 10000;", "this.house = what / 10000 % 5;",
                "this.from = what / 1000 % 10;", "this.from = what / 100 % 10;", "this.to = what / 100 % 10;", "this.to = what / 1000 % 10;",
                "this.kind = what / 10 % 10;", "this.kind = what % 10;"),
            Case.of("Promise 6", "(the last digit is 0);", BidCases::lastDigit, " || what % 10 != 0", "",
                "what % 10 != 0", "what % 10 > 1", "what % 10 != 0", "what % 10 == 9"),
            Case.of("Promise 6", "when is its earliest minute * 1000 + the latest one;", BidCases::whenItIs,
                "this.earliest = when / 1000;", "this.earliest = when % 1000;", "this.latest = when % 1000;", "this.latest = when / 1000;",
                "return when >= 0 && ", "return "),
            Case.of("Promise 6", "worth is 0 .. 1000,", BidCases::worths,
                "isWithin(worth, 0, MOST_WORTH)", "isWithin(worth, 1, MOST_WORTH)", "isWithin(worth, 0, MOST_WORTH)", "isWithin(worth, -1, MOST_WORTH)",
                "MOST_WORTH = 1000", "MOST_WORTH = 999", "MOST_WORTH = 1000", "MOST_WORTH = 1001"),
            Case.of("Promise 6", "rank 0 .. 99.", BidCases::ranks,
                "isWithin(rank, 0, MOST_RANK)", "isWithin(rank, 1, MOST_RANK)", "isWithin(rank, 0, MOST_RANK)", "isWithin(rank, -1, MOST_RANK)",
                "MOST_RANK = 99", "MOST_RANK = 98", "MOST_RANK = 99", "MOST_RANK = 100"),
            Case.of("Promise 6", "NONE if that can't be,", BidCases::bidsThatCantBe,
                "what < 0 || ", "", "first < stations &&", "", "last < stations &&", "", "|| !Bid.isWhen(when)", ""),
            Case.of("Promise 6", "or 16 came.", BidCases::sixteenCame,
                "book.size() >= MOST_BIDS || ", "", "MOST_BIDS = 16", "MOST_BIDS = 17", "MOST_BIDS = 16", "MOST_BIDS = 15"),
            Case.of("Promise 7", "Two BIDS are LINKED: true;", BidCases::twoAreLinked,
                "one.partner = b;", "", "other.partner = a;", "", "other.partner = a;", "other.partner = b;"),
            Case.of("Promise 7", "false if there is none such,", BidCases::linksOfNone,
                "one == null || other == null || a == b", "other == null || a == b",
                "one == null || other == null || a == b", "one == null || a == b",
                "number >= 0 && number < bids.size()", "number < bids.size()",
                "number >= 0 && number < bids.size()", "number >= 0 && number <= bids.size()"),
            Case.of("Promise 7", "both are one,", BidCases::linkOfOne, "a == b || ", ""),
            Case.of("Promise 7", "or one is LINKED already.", BidCases::linkedAlready,
                "one.partner != NONE || other.partner != NONE", "one.partner != NONE && other.partner != NONE",
                "one.partner != NONE || other.partner != NONE", "one.partner > 0 || other.partner > 0"));
    }

    private static void minutesOfTheDay(Check c) {
        FreightPaths x = new FreightPaths(2);
        c.due("earliest 240", x.bid(100, 240239, 1, 0), NONE);
        c.due("latest 240", x.bid(100, 240, 1, 0), NONE);
        c.due("both 240", x.bid(100, 240240, 1, 0), NONE);
        c.due("from 0 to 239", x.bid(100, 239, 1, 0), 0);
        c.due("from 234 to 239", x.bid(100, 234239, 1, 0), 1);
        c.due("from 235 to 239", x.bid(100, 235239, 1, 0), 2);
        c.due("from 239 to 239", x.bid(100, 239239, 1, 0), 3);
        c.due("from 0 to 0", x.bid(100, 0, 1, 0), 4);
        c.due("it may leave in 0", x.find(0), 5);
        c.due("it may come in 239", x.find(1), 239);
        c.due("it can't come in 240", x.find(2), NONE);
        c.due("it can't leave in 239", x.find(3), NONE);
        c.due("it can't come in 0", x.find(4), NONE);
        c.due("it may leave in 234", x.give(1) && x.path(1, 0) == 234, true);
        x.drop(1);
        x.works(0, 0, 1);
        c.due("minute 0 is closed", x.find(0), 6);
        x.works(0, 0, 234);
        c.due("all are closed up to 233", x.find(0), 239);
        x.works(0, 234, 235);
        c.due("all are closed up to 234", x.find(0), NONE);
    }

    private static void numbersAsTheyCome(Check c) {
        FreightPaths x = new FreightPaths(2);
        for (int i = 0; i < 16; i++) {
            c.due("one that is refused takes no number", x.bid(101, 239, 1, 0), NONE);
            c.due("number", x.bid(100, 239, 1, 99 - i), i);
        }
        c.due("the seventeenth", x.bid(100, 239, 1, 0), NONE);
        c.due("the last one is there", x.find(15), 5);
        c.due("there is no one behind it", x.find(16), NONE);
        x.drop(0);
        c.due("none becomes free", x.bid(100, 239, 1, 0), NONE);
    }

    private static void houses(Check c) {
        FreightPaths x = new FreightPaths(2);
        for (int house = 0; house <= 5; house++) {
            c.due("house " + house, x.bid(house * 10000 + 100, 239, 1, 0), house);
        }
        for (int house : new int[] {6, 7, 9, 10, 15, 100, 214747}) {
            c.due("house " + house, x.bid(house * 10000 + 100, 239, 1, 0), NONE);
        }
        x.round();
        x.delay(0, 0, 1);
        c.due("house 0 owes", x.balance(0), -1);
        c.due("house 5 is owed", x.balance(5), 1);
    }

    private static void fromOneToAnother(Check c) {
        for (int from = 0; from < 8; from++) {
            FreightPaths x = new FreightPaths(8);
            int came = 0;
            for (int to = 0; to < 8; to++) {
                int number = x.bid(from * 1000 + to * 100, 239, 1, 0);
                c.due("from " + from + " to " + to, number, from == to ? NONE : came);
                if (from != to) {
                    came++;
                    c.due("it comes from " + from + " to " + to, x.find(number), 5 * Math.abs(from - to));
                }
            }
        }
    }

    private static void kinds(Check c) {
        FreightPaths x = new FreightPaths(2);
        c.due("kind 0", x.bid(100, 239, 1, 0), 0);
        c.due("kind 1", x.bid(110, 239, 1, 0), 1);
        for (int kind = 2; kind <= 9; kind++) {
            c.due("kind " + kind, x.bid(100 + kind * 10, 239, 1, 0), NONE);
        }
        c.due("fast", x.find(0), 5);
        c.due("slow", x.find(1), 8);
    }

    private static void earliestAndLatest(Check c) {
        FreightPaths x = new FreightPaths(2);
        x.bid(100, 7012, 1, 0);
        x.bid(100, 7011, 1, 0);
        x.bid(100, 7013, 1, 0);
        c.due("just so", x.find(0), 12);
        c.due("a minute short", x.find(1), NONE);
        c.due("a minute more", x.find(2), 12);
        x.works(0, 7, 8);
        c.due("just so, a minute closed", x.find(0), NONE);
        c.due("a minute more, a minute closed", x.find(2), 13);
        c.due("the latest ahead of the earliest is no path", x.find(x.bid(100, 50010, 1, 0)), NONE);
    }

    private static void worthAndRank(Check c) {
        FreightPaths x = new FreightPaths(2);
        x.bid(100, 239, 7, 3);
        x.bid(100, 239, 20, 2);
        x.bid(100, 239, 3, 9);
        x.round();
        c.due("worths", x.count(3), 30);
        c.path(x, 1, 0, 5);
        c.path(x, 0, 5, 10);
        c.path(x, 2, 10, 15);
        x.drop(1);
        c.due("worths without the dear one", x.count(3), 10);
    }

    private static void linkedWithOneAtMost(Check c) {
        FreightPaths x = new FreightPaths(2);
        for (int i = 0; i < 16; i++) {
            Desk.bid(x, 0, 1, 0, 239);
        }
        for (int i = 0; i < 16; i += 2) {
            c.due("link(" + i + ", " + (i + 1) + ")", x.link(i, i + 1), true);
        }
        for (int i = 0; i < 16; i++) {
            c.due("another one with " + i, x.link((i + 2) % 16, i), false);
            c.due(i + " with another one", x.link(i, (i + 5) % 16), false);
        }
        FreightPaths y = new FreightPaths(2);
        for (int i = 0; i < 3; i++) {
            Desk.bid(y, 0, 1, 0, 239);
        }
        y.link(0, 1);
        c.due("the first one of two with a free one", y.link(0, 2), false);
        c.due("a free one with the first one of two", y.link(2, 0), false);
        c.due("the second one of two with a free one", y.link(1, 2), false);
        c.due("a free one with the second one of two", y.link(2, 1), false);
    }

    private static void itsNumber(Check c) {
        FreightPaths x = new FreightPaths(2);
        c.due("the first one", x.bid(100, 239, 1, 5), 0);
        c.due("the second one", x.bid(1000, 239, 1, 0), 1);
        c.due("a like one", x.bid(1000, 239, 1, 0), 2);
        c.due("three came", x.count(1), 3);
    }

    private static void whatItIs(Check c) {
        FreightPaths x = new FreightPaths(8);
        c.due("the most", x.bid(57610, 239, 1, 0), 0);
        c.due("the least", x.bid(100, 239, 1, 0), 1);
        c.due("from 7 to 0", x.bid(7000, 239, 1, 0), 2);
        c.due("from 0 to 7", x.bid(50710, 239, 1, 0), 3);
        x.give(0);
        c.path(x, 0, NONE, NONE, NONE, NONE, NONE, NONE, 8, 0);
        x.give(1);
        c.path(x, 1, 0, 5, NONE, NONE, NONE, NONE, NONE, NONE);
        x.drop(0);
        x.drop(1);
        x.give(2);
        c.path(x, 2, 35, 30, 25, 20, 15, 10, 5, 0);
        x.drop(2);
        x.give(3);
        c.path(x, 3, 0, 8, 16, 24, 32, 40, 48, 56);
        for (int house = 0; house <= 5; house++) {
            c.due("a coin to house " + house, coinTo(house, 0), house == 0 ? 0 : 1);
            c.due("a coin to house " + house + " with a high rest", coinTo(house, 3), house == 3 ? 0 : 1);
        }
    }

    /** What a house is owed by another one for a minute, by bids whose numbers are as high as they can be. */
    private static int coinTo(int house, int other) {
        FreightPaths x = new FreightPaths(8);
        x.bid(other * 10000 + 7610, 239, 1, 0);
        x.bid(house * 10000 + 7610, 239, 1, 0);
        x.round();
        x.delay(0, 7, 1);
        return x.balance(house);
    }

    private static void lastDigit(Check c) {
        FreightPaths x = new FreightPaths(2);
        for (int digit = 1; digit <= 9; digit++) {
            c.due("bid(" + (100 + digit) + ", ..)", x.bid(100 + digit, 239, 1, 0), NONE);
            c.due("bid(" + (51010 + digit) + ", ..)", x.bid(51010 + digit, 239, 1, 0), NONE);
        }
        c.due("bid(51010, ..)", x.bid(51010, 239, 1, 0), 0);
    }

    private static void whenItIs(Check c) {
        FreightPaths x = new FreightPaths(2);
        x.bid(100, 230239, 1, 0);
        x.bid(100, 239, 1, 0);
        x.bid(100, 5, 1, 0);
        x.bid(100, 1006, 1, 0);
        x.bid(100, 1005, 1, 0);
        c.due("from 230 on", x.find(0), 235);
        c.due("from 0 on", x.find(1), 5);
        c.due("from 0 to 5", x.find(2), 5);
        c.due("from 1 to 6", x.find(3), 6);
        c.due("from 1 to 5", x.find(4), NONE);
        for (int when : new int[] {-1, -239, -5, -1000, -999761, LOWEST, HIGHEST, 999, 1000000, 240000, 239240, 1999}) {
            c.due("bid(100, " + when + ", ..)", x.bid(100, when, 1, 0), NONE);
        }
    }

    private static void worths(Check c) {
        FreightPaths x = new FreightPaths(2);
        for (int worth : new int[] {LOWEST, -1, 1001, 1002, HIGHEST}) {
            c.due("worth " + worth, x.bid(100, 239, worth, 0), NONE);
        }
        c.due("worth 0", x.bid(100, 239, 0, 0), 0);
        c.due("worth 1000", x.bid(100, 239, 1000, 0), 1);
        x.give(0);
        c.due("worths of 0", x.count(3), 0);
        x.give(1);
        c.due("worths of 1000", x.count(3), 1000);
    }

    private static void ranks(Check c) {
        FreightPaths x = new FreightPaths(2);
        for (int rank : new int[] {LOWEST, -1, 100, 101, HIGHEST}) {
            c.due("rank " + rank, x.bid(100, 239, 1, rank), NONE);
        }
        c.due("rank 99", x.bid(100, 239, 1, 99), 0);
        c.due("rank 0", x.bid(100, 239, 1, 0), 1);
        x.round();
        c.path(x, 1, 0, 5);
        c.path(x, 0, 5, 10);
    }

    private static void bidsThatCantBe(Check c) {
        FreightPaths x = new FreightPaths(4);
        int[] whats = {-100, -1000, -10, -1, -60100, -99900, LOWEST, HIGHEST, HIGHEST / 10 * 10, 0, 10, 1100, 2200, 3300, 400, 500,
            900, 4000, 5000, 9000, 4500, 4400, 1000000000, 2147483100};
        for (int what : whats) {
            c.due("bid(" + what + ", 239, 1, 0)", x.bid(what, 239, 1, 0), NONE);
        }
        c.due("a latest minute that is none", x.bid(100, 240, 1, 0), NONE);
        c.due("all wrong", x.bid(-1, -1, -1, -1), NONE);
        c.due("none came", x.count(1), 0);
        c.due("to the last station", x.bid(300, 239, 1, 0), 0);
        c.due("from the last station", x.bid(3000, 239, 1, 0), 1);
    }

    private static void sixteenCame(Check c) {
        FreightPaths x = new FreightPaths(2);
        for (int i = 0; i < 16; i++) {
            c.due("number " + i, Desk.bid(x, 0, 1, 0, 239), i);
        }
        c.due("one more", Desk.bid(x, 0, 1, 0, 239), NONE);
        c.due("16 came", x.count(1), 16);
        c.due("all are given a path", x.round(), 16);
        c.due("one more when all are given a path", Desk.bid(x, 0, 1, 0, 239), NONE);
    }

    /** Of two that are linked one can't have a path: whichever comes first, neither has one. */
    private static void twoAreLinked(Check c) {
        for (int lame = 0; lame < 2; lame++) {
            for (int first = 0; first < 2; first++) {
                FreightPaths x = new FreightPaths(2);
                x.bid(100, lame == 0 ? 4 : 239, 1, first == 0 ? 0 : 1);
                x.bid(100, lame == 1 ? 4 : 239, 1, first == 1 ? 0 : 1);
                c.due("without a link", x.round(), 1);
                c.due("link(0, 1)", x.link(0, 1), true);
                c.due("with a link", x.round(), 0);
            }
        }
        FreightPaths x = new FreightPaths(2);
        for (int i = 0; i < 16; i++) {
            Desk.bid(x, 0, 1, 0, 239);
        }
        c.due("link(15, 0)", x.link(15, 0), true);
        x.round();
        c.path(x, 0, 0, 5);
        c.path(x, 15, 5, 10);
    }

    private static void linksOfNone(Check c) {
        FreightPaths x = new FreightPaths(2);
        c.due("link(0, 1) without bids", x.link(0, 1), false);
        Desk.bid(x, 0, 1, 0, 239);
        c.due("link(0, 1) with one bid", x.link(0, 1), false);
        c.due("link(1, 0) with one bid", x.link(1, 0), false);
        Desk.bid(x, 0, 1, 0, 239);
        for (int none : Desk.NO_BIDS) {
            c.due("link(0, " + none + ")", x.link(0, none), false);
            c.due("link(" + none + ", 0)", x.link(none, 0), false);
            c.due("link(" + none + ", " + none + ")", x.link(none, none), false);
        }
        c.due("link(0, 2)", x.link(0, 2), false);
        c.due("link(2, 0)", x.link(2, 0), false);
        c.due("both are free still", x.link(0, 1), true);
    }

    private static void linkOfOne(Check c) {
        FreightPaths x = new FreightPaths(2);
        for (int i = 0; i < 16; i++) {
            Desk.bid(x, 0, 1, 0, 239);
        }
        for (int i = 0; i < 16; i++) {
            c.due("link(" + i + ", " + i + ")", x.link(i, i), false);
        }
        c.due("it is free still", x.link(0, 15), true);
        c.due("a linked one with itself", x.link(0, 0), false);
    }

    private static void linkedAlready(Check c) {
        FreightPaths x = new FreightPaths(2);
        for (int i = 0; i < 4; i++) {
            Desk.bid(x, 0, 1, 0, 239);
        }
        c.due("link(1, 0)", x.link(1, 0), true);
        c.due("the same again", x.link(1, 0), false);
        c.due("the same the other way", x.link(0, 1), false);
        c.due("the first one of them", x.link(1, 2), false);
        c.due("behind a free one", x.link(2, 1), false);
        c.due("the second one of them", x.link(0, 2), false);
        c.due("the second one behind a free one", x.link(2, 0), false);
        c.due("two that are free", x.link(2, 3), true);
    }
}
