import java.util.List;

/** Rounds by rank, and the best of all orders. */
final class RoundCases {
    private static final int NONE = Desk.NONE;

    private RoundCases() {
    }

    static List<Case> all() {
        return List.of(
            Case.of("Terms 2", "A ROUND: nothing is GIVEN any more;", RoundCases::nothingIsGiven,
                "rounds.comeByRank(); run.forget();", "rounds.comeByRank();", "book.dropAll(); for", "for", "bids.get(i).hasPath = false; } } int pathsGiven",
                "bids.get(i).hasPath = bids.get(i).hasPath && i > 0; } } int pathsGiven"),
            Case.of("Terms 2", "then BIDS by RANK (of like ones by number):", RoundCases::byRank,
                "byRank.get(place - 1).rank > bid.rank", "byRank.get(place - 1).rank >= bid.rank",
                "byRank.get(place - 1).rank > bid.rank", "byRank.get(place - 1).rank < bid.rank",
                "Bid bid = book.byRank.get(i); if (!hasCome", "Bid bid = book.bids.get(i); if (!hasCome"),
            Case.of("Terms 2", "the PATH that is FOUND is GIVEN to it, if there is one.", RoundCases::givenIfThereIsOne,
                "{ comeWithPartner(bid); } } } void", "{ if (comeWithPartner(bid) > 0) { break; } } } } void",
                "boolean found = search.endFor(bid) != NONE;", "search.endFor(bid); boolean found = true;"),
            Case.of("Terms 2", "Of two LINKED ones the other one comes right behind the first one;", RoundCases::linkedRightBehind,
                "Bid partner = book.at(bid.partner); hasCome[bid.number]", "Bid partner = book.at(NONE); hasCome[bid.number]"),
            Case.of("Terms 2", "if not for both a PATH is FOUND, neither is GIVEN one.", RoundCases::bothOrNeither,
                "bid.hasPath = false; return bid.worth + partner.worth;", "return bid.worth + partner.worth;",
                "if (found && search.endFor(partner) != NONE)", "if (search.endFor(partner) != NONE)",
                "hasCome[partner.number] = true;", ""),
            Case.of("Terms 2", "The BEST, for at most 5 BIDS:", RoundCases::bestOfFive,
                "MOST_BIDS_FOR_BEST = 5", "MOST_BIDS_FOR_BEST = 4", "MOST_BIDS_FOR_BEST = 5", "MOST_BIDS_FOR_BEST = 6",
                "depth < MOST_BIDS_FOR_BEST; i++", "depth < MOST_BIDS_FOR_BEST - 1; i++"),
            Case.of("Terms 2", "of all ORDERS in which BIDS may come instead of by RANK (LINKED ones as told)", RoundCases::allOrders,
                "if (!rounds.hasCome[i] && reachable", "if (allCame && !rounds.hasCome[i] && reachable",
                "one.partner = b; other.partner = a;", "", "if (partner != null) { takeBack(partner); }", "",
                "bid.hasPath = false; hasCome[bid.number] = false;", "hasCome[bid.number] = false;"),
            Case.of("Terms 2", "that by which the WORTHS of those to whom a PATH is GIVEN are most together;", RoundCases::mostWorths,
                "return found ? 0 : bid.worth;", "return found ? 0 : 1;", "return bid.worth + partner.worth;", "return bid.worth;",
                "return bid.worth + partner.worth;", "return partner.worth;", "return 0; } bid.hasPath", "return -1; } bid.hasPath",
                "bestWorth = worth;", "bestWorth = 0;"),
            Case.of("Terms 2", "of like ones the first one by the numbers of its BIDS;", RoundCases::firstOfLikeOrders,
                "for (int i = 0; i < rounds.book.size() && depth < MOST_BIDS_FOR_BEST; i++)",
                "for (int i = rounds.book.size() - 1; i >= 0 && depth < MOST_BIDS_FOR_BEST; i--)",
                "Bid bid = rounds.book.bids.get(i); if", "Bid bid = rounds.book.byRank.get(i); if",
                "bestWorth = worth; bestLength", "bestWorth = worth - 1; bestLength"),
            Case.of("Terms 2", "it stands.", RoundCases::theBestStands,
                "if (bid != null) { comeWithPartner(bid); }", "if (bid != null) { bid.hasPath = false; }",
                "Bid bid = book.at(bestOrder[i]);", "Bid bid = book.at(order[i]);", "rounds.comeByBestOrder(); run.forget();", "rounds.comeByBestOrder();",
                "bestLength = length;", "bestLength = length - 1;"),
            Case.of("Promise 11", "A ROUND: how many have a PATH then.", RoundCases::howManyHaveAPath,
                "return book.pathsGiven(); } public int best", "return book.size(); } public int best",
                "return book.pathsGiven(); } public int best", "return book.worthsGiven(); } public int best",
                "return book.pathsGiven(); } public int best", "return book.size() == 0 ? NONE : book.pathsGiven(); } public int best"),
            Case.of("Promise 12", "The BEST: its WORTHS together;", RoundCases::worthsOfTheBest,
                "return book.worthsGiven(); } public int path", "return book.pathsGiven(); } public int path",
                "return book.worthsGiven(); } public int path", "return book.worthsGiven() == 0 ? NONE : book.worthsGiven(); } public int path"),
            Case.of("Promise 12", "NONE, and nothing changes, if there are no BIDS", RoundCases::bestWithoutBids,
                "book.size() < 1 || book.size() > MOST_BIDS_FOR_BEST", "book.size() > MOST_BIDS_FOR_BEST"),
            Case.of("Promise 12", "or more than 5.", RoundCases::bestOfTooMany,
                "book.size() < 1 || book.size() > MOST_BIDS_FOR_BEST", "book.size() < 1",
                "book.size() > MOST_BIDS_FOR_BEST", "book.size() > MOST_BIDS_FOR_BEST + 1",
                "book.size() > MOST_BIDS_FOR_BEST) { return NONE; }", "book.size() > MOST_BIDS_FOR_BEST) { book.dropAll(); return NONE; }"));
    }

    private static void nothingIsGiven(Check c) {
        FreightPaths x = new FreightPaths(2);
        x.bid(100, 239, 1, 0);
        x.bid(100, 239, 1, 1);
        x.give(1);
        x.give(0);
        c.path(x, 1, 0, 5);
        c.path(x, 0, 5, 10);
        c.due("how it runs", x.ran(0, 0), 10);
        c.due("a round", x.round(), 2);
        c.path(x, 0, 0, 5);
        c.path(x, 1, 5, 10);
        c.due("how it runs then", x.ran(0, 0), 5);
        x.works(0, 0, 480);
        c.due("a round in which no path is found", x.round(), 0);
        c.path(x, 0, NONE, NONE);
        c.path(x, 1, NONE, NONE);
        FreightPaths y = new FreightPaths(2);
        y.bid(100, 239, 1, 1);
        y.bid(100, 239, 1, 0);
        y.give(0);
        y.round();
        c.path(y, 1, 0, 5);
        c.path(y, 0, 5, 10);
    }

    private static void byRank(Check c) {
        FreightPaths x = new FreightPaths(2);
        int[] ranks = {99, 5, 0, 5, 98, 0, 5, 99};
        int[] places = {6, 2, 0, 3, 5, 1, 4, 7};
        for (int rank : ranks) {
            x.bid(100, 239, 1, rank);
        }
        x.round();
        for (int i = 0; i < ranks.length; i++) {
            c.due("bid " + i + " of rank " + ranks[i], x.path(i, 0), 5 * places[i]);
        }
        x.bid(100, 239, 1, 1);
        x.round();
        c.due("one that came later, by its rank", x.path(8, 0), 10);
        c.due("the one behind it", x.path(1, 0), 15);
    }

    private static void givenIfThereIsOne(Check c) {
        FreightPaths x = new FreightPaths(2);
        x.bid(100, 4, 1, 0);
        x.bid(100, 5, 1, 1);
        x.bid(100, 5, 1, 2);
        x.bid(100, 10, 1, 3);
        c.due("two of four", x.round(), 2);
        c.path(x, 0, NONE, NONE);
        c.path(x, 1, 0, 5);
        c.path(x, 2, NONE, NONE);
        c.path(x, 3, 5, 10);
        c.why(x, NONE, NONE, NONE);
    }

    private static void linkedRightBehind(Check c) {
        FreightPaths x = new FreightPaths(2);
        x.bid(100, 239, 1, 1);
        x.bid(100, 239, 1, 1);
        x.bid(100, 239, 1, 0);
        x.bid(100, 239, 1, 99);
        x.bid(100, 239, 1, 1);
        x.link(3, 0);
        x.round();
        int[] leaves = {5, 15, 0, 10, 20};
        for (int i = 0; i < 5; i++) {
            c.due("bid " + i, x.path(i, 0), leaves[i]);
        }
        FreightPaths y = new FreightPaths(2);
        y.bid(100, 239, 1, 9);
        y.bid(100, 239, 1, 2);
        y.bid(100, 239, 1, 1);
        y.link(0, 2);
        y.round();
        c.due("the first one by rank, though its number is higher", y.path(2, 0), 0);
        c.due("the other one right behind it", y.path(0, 0), 5);
        c.due("the one between them by rank", y.path(1, 0), 10);
        FreightPaths z = new FreightPaths(2);
        for (int i = 0; i < 4; i++) {
            z.bid(100, 239, 1, 7);
        }
        z.link(3, 0);
        z.link(2, 1);
        z.round();
        int[] like = {0, 10, 15, 5};
        for (int i = 0; i < 4; i++) {
            c.due("of like ranks bid " + i, z.path(i, 0), like[i]);
        }
    }

    private static void bothOrNeither(Check c) {
        FreightPaths x = new FreightPaths(2);
        x.bid(100, 239, 1, 0);
        x.bid(100, 9, 1, 1);
        x.bid(100, 239, 1, 2);
        x.link(0, 1);
        c.due("for the first one, not for the other one", x.round(), 1);
        c.path(x, 0, NONE, NONE);
        c.path(x, 1, NONE, NONE);
        c.path(x, 2, 0, 5);

        FreightPaths y = new FreightPaths(2);
        y.bid(100, 4, 1, 0);
        y.bid(100, 239, 1, 1);
        y.bid(100, 239, 1, 2);
        y.link(0, 1);
        c.due("not for the first one, for the other one alone", y.round(), 1);
        c.path(y, 0, NONE, NONE);
        c.path(y, 1, NONE, NONE);
        c.path(y, 2, 0, 5);

        FreightPaths z = new FreightPaths(2);
        z.bid(100, 239, 1, 0);
        z.bid(100, 10, 1, 1);
        z.link(1, 0);
        c.due("for both, just so", z.round(), 2);
        c.path(z, 1, 5, 10);
        z.works(0, 0, 480);
        c.due("for neither", z.round(), 0);
        c.due("the link stays", z.link(0, 1), false);
    }

    private static void bestOfFive(Check c) {
        FreightPaths x = new FreightPaths(2);
        int[] leaves = {20, 15, 10, 5, 0};
        for (int i = 0; i < 5; i++) {
            x.bid(100, 25 - 5 * i, 1 + i, 0);
        }
        c.due("five that fit in one order alone", x.best(), 15);
        for (int i = 0; i < 5; i++) {
            c.due("bid " + i, x.path(i, 0), leaves[i]);
        }
        x.bid(100, 239, 1, 0);
        c.due("six", x.best(), NONE);
    }

    private static void allOrders(Check c) {
        FreightPaths x = new FreightPaths(2);
        x.bid(100, 239, 1, 0);
        x.bid(100, 10, 2, 50);
        x.bid(100, 5, 4, 99);
        c.due("against the rank", x.best(), 7);
        c.path(x, 2, 0, 5);
        c.path(x, 1, 5, 10);
        c.path(x, 0, 10, 15);
        x.round();
        c.due("by rank", x.count(3), 3);

        FreightPaths y = new FreightPaths(2);
        y.bid(100, 10, 1, 0);
        y.bid(100, 5, 8, 0);
        y.bid(100, 15, 3, 0);
        y.link(0, 1);
        c.due("the second one of two that are linked may come first", y.best(), 12);
        c.path(y, 1, 0, 5);
        c.path(y, 0, 5, 10);
        c.path(y, 2, 10, 15);

        FreightPaths z = new FreightPaths(2);
        z.bid(100, 15, 5, 0);
        z.bid(100, 5, 5, 0);
        z.bid(100, 10, 9, 0);
        z.link(0, 1);
        c.due("linked ones come one right behind the other one, none comes between", z.best(), 10);
        c.path(z, 1, 0, 5);
        c.path(z, 0, 5, 10);
        c.path(z, 2, NONE, NONE);
    }

    private static void mostWorths(Check c) {
        FreightPaths x = new FreightPaths(2);
        x.section(0, false, 5, 10);
        x.bid(100, 10, 4, 0);
        x.bid(100, 10, 4, 0);
        x.bid(110, 10, 9, 0);
        c.due("one dear one, not two cheap ones", x.best(), 9);
        c.due("one is given", x.count(2), 1);

        FreightPaths y = new FreightPaths(2);
        y.bid(100, 10, 4, 0);
        y.bid(100, 10, 5, 0);
        y.bid(100, 10, 6, 0);
        y.bid(100, 10, 4, 0);
        y.link(0, 3);
        y.bid(100, 15, 1, 0);
        c.due("two single ones, not two linked ones", y.best(), 12);
        c.path(y, 0, NONE, NONE);
        c.path(y, 3, NONE, NONE);

        FreightPaths z = new FreightPaths(2);
        z.bid(100, 10, 5, 0);
        z.bid(100, 10, 5, 0);
        z.bid(100, 10, 6, 0);
        z.bid(100, 10, 5, 0);
        z.link(1, 2);
        c.due("of the linked ones both count", z.best(), 11);
        c.path(z, 1, 0, 5);
        c.path(z, 2, 5, 10);

        FreightPaths close = new FreightPaths(2);
        int[] worths = {5, 5, 5, 6};
        for (int worth : worths) {
            close.bid(100, 10, worth, 0);
        }
        close.link(0, 1);
        c.due("linked ones with a worth less by one", close.best(), 11);
        c.path(close, 2, 0, 5);
        c.path(close, 3, 5, 10);
    }

    private static void firstOfLikeOrders(Check c) {
        FreightPaths x = new FreightPaths(2);
        for (int i = 0; i < 5; i++) {
            x.bid(100, 239, 3, 50 - i);
        }
        x.best();
        for (int i = 0; i < 5; i++) {
            c.due("bid " + i, x.path(i, 0), 5 * i);
        }
        FreightPaths y = new FreightPaths(2);
        for (int i = 0; i < 5; i++) {
            y.bid(100, 239, 3, 50 - i);
        }
        y.link(4, 0);
        y.link(3, 2);
        y.best();
        int[] leaves = {0, 10, 15, 20, 5};
        for (int i = 0; i < 5; i++) {
            c.due("with links bid " + i, y.path(i, 0), leaves[i]);
        }
        FreightPaths z = new FreightPaths(2);
        z.bid(100, 10, 2, 0);
        z.bid(100, 10, 2, 0);
        z.bid(100, 5, 2, 0);
        c.due("two of three", z.best(), 4);
        c.path(z, 0, 0, 5);
        c.path(z, 1, 5, 10);
        c.path(z, 2, NONE, NONE);
        FreightPaths none = new FreightPaths(2);
        for (int i = 0; i < 3; i++) {
            none.bid(100, 10, 0, 0);
        }
        c.due("worths of 0", none.best(), 0);
        c.path(none, 0, 0, 5);
        c.path(none, 1, 5, 10);
        c.path(none, 2, NONE, NONE);
    }

    private static void theBestStands(Check c) {
        FreightPaths x = new FreightPaths(2);
        x.bid(100, 5, 3, 0);
        x.bid(100, 9, 4, 0);
        x.bid(1000, 14, 5, 0);
        x.round();
        c.due("by rank the first one runs", x.ran(0, 0), 5);
        c.due("the best", x.best(), 9);
        c.due("it doesn't run any more", x.ran(0, 0), NONE);
        c.due("the second one runs", x.ran(1, 0), 5);
        c.due("two are given", x.count(2), 2);
        c.due("their worths", x.count(3), 9);
        c.path(x, 0, NONE, NONE);
        c.path(x, 1, 0, 5);
        c.path(x, 2, 10, 5);
        c.due("they run", x.ran(2, 0), 10);
        c.due("again", x.best(), 9);
        c.path(x, 1, 0, 5);
        c.due("it can be dropped", x.drop(1), true);
    }

    private static void howManyHaveAPath(Check c) {
        FreightPaths x = new FreightPaths(2);
        c.due("without bids", x.round(), 0);
        x.bid(100, 4, 7, 0);
        c.due("none", x.round(), 0);
        for (int i = 1; i < 16; i++) {
            x.bid(100, 239, 7, 0);
            c.due("all but one", x.round(), i);
        }
        c.due("again", x.round(), 15);
        c.due("they have it", x.count(2), 15);
    }

    private static void worthsOfTheBest(Check c) {
        FreightPaths x = new FreightPaths(2);
        x.bid(100, 4, 1000, 0);
        c.due("one that has no path", x.best(), 0);
        x.bid(100, 239, 0, 0);
        c.due("one of worth 0", x.best(), 0);
        c.due("it is given", x.count(2), 1);
        x.bid(100, 239, 1000, 0);
        x.bid(100, 239, 999, 0);
        x.bid(100, 239, 1, 0);
        c.due("three more", x.best(), 2000);
        c.due("four are given", x.count(2), 4);
    }

    private static void bestWithoutBids(Check c) {
        FreightPaths x = new FreightPaths(2);
        c.due("the best", x.best(), NONE);
        c.due("none came", x.count(1), 0);
        c.due("none is given", x.count(2), 0);
        x.bid(100, 239, 8, 0);
        c.due("one came", x.best(), 8);
    }

    private static void bestOfTooMany(Check c) {
        FreightPaths x = new FreightPaths(2);
        for (int i = 0; i < 5; i++) {
            x.bid(100, 239, 1, 9 - i);
        }
        c.due("five", x.best(), 5);
        x.round();
        x.drop(2);
        for (int i = 5; i < 16; i++) {
            x.bid(100, 239, 1, 0);
            c.due(i + 1 + " bids", x.best(), NONE);
            c.due("four are given still", x.count(2), 4);
        }
        int[] leaves = {20, 15, NONE, 5, 0};
        for (int i = 0; i < 5; i++) {
            c.due("bid " + i, x.path(i, 0), leaves[i]);
        }
    }
}
