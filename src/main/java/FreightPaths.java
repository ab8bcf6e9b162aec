import java.util.ArrayList;

/** A desk that gives each train of a line its minutes, and then lets the trains run; README.md tells how to use it. */
public final class FreightPaths {
    public static final int NONE = -1;

    private static final int LEAST_STATIONS = 2;
    private static final int MOST_STATIONS = 8;
    private static final int MOST_BIDS = 16;
    private static final int MOST_BIDS_FOR_BEST = 5;
    private static final int MOST_WORKS = 10;
    private static final int MOST_SECTION_MINUTES = 30;
    private static final int MOST_TRACKS = 9;
    private static final int MOST_HEADWAY = 9;
    private static final int MOST_WORTH = 1000;
    private static final int MOST_RANK = 99;
    private static final int MOST_DELAY = 60;
    private static final int HOUSES = 6;
    private static final int KINDS = 2;
    private static final int DAY_MINUTES = 240;
    private static final int RUN_MINUTES = 480;
    private static final int RULES = 3;

    private final Line line;
    private final Book book;
    private final PathSearch search;
    private final Rounds rounds;
    private final Breaks breaks;
    private final Run run;

    public FreightPaths(int stations) {
        Line newLine = new Line(Math.max(LEAST_STATIONS, Math.min(MOST_STATIONS, stations)));
        Book newBook = new Book();
        PathSearch newSearch = new PathSearch(newLine, newBook);
        line = newLine;
        book = newBook;
        search = newSearch;
        rounds = new Rounds(newBook, newSearch);
        breaks = new Breaks(newLine, newBook);
        run = new Run(newLine, newBook);
    }

    public boolean section(int k, boolean isDouble, int fast, int slow) {
        if (!line.hasSection(k) || !isWithin(fast, 1, MOST_SECTION_MINUTES) || !isWithin(slow, 1, MOST_SECTION_MINUTES)) {
            return false;
        }
        if (book.pathsGiven() > 0) {
            return false;
        }
        line.setSection(k, isDouble, fast, slow);
        run.forget();
        return true;
    }

    public boolean tracks(int station, int n) {
        if (!line.hasStation(station) || !isWithin(n, 0, MOST_TRACKS)) {
            return false;
        }
        line.tracksAt[station] = n;
        return true;
    }

    public boolean headway(int minutes) {
        if (!isWithin(minutes, 0, MOST_HEADWAY)) {
            return false;
        }
        line.headwayMinutes = minutes;
        run.forget();
        return true;
    }

    public boolean works(int section, int from, int to) {
        if (!line.hasSection(section) || from < 0 || to > RUN_MINUTES || to <= from || line.worksCame >= MOST_WORKS) {
            return false;
        }
        line.addWorks(section, from, to);
        run.forget();
        return true;
    }

    public int bid(int what, int when, int worth, int rank) {
        if (book.size() >= MOST_BIDS || !isWithin(worth, 0, MOST_WORTH) || !isWithin(rank, 0, MOST_RANK)) {
            return NONE;
        }
        if (!Bid.isWhat(what, line.stations) || !Bid.isWhen(when)) {
            return NONE;
        }
        Bid coming = new Bid(book.size(), what, when, worth, rank);
        book.add(coming);
        run.forget();
        return coming.number;
    }

    public boolean link(int a, int b) {
        Bid one = book.at(a);
        Bid other = book.at(b);
        if (one == null || other == null || a == b || one.partner != NONE || other.partner != NONE) {
            return false;
        }
        one.partner = b;
        other.partner = a;
        return true;
    }

    public int find(int bid) {
        Bid asked = book.at(bid);
        return asked == null ? NONE : search.endFor(asked);
    }

    public boolean give(int bid) {
        Bid asked = book.at(bid);
        if (asked == null || search.endFor(asked) == NONE) {
            return false;
        }
        asked.takePath(search.leaves, search.comes);
        run.forget();
        return true;
    }

    public boolean drop(int bid) {
        Bid asked = book.at(bid);
        if (asked == null || !asked.hasPath) {
            return false;
        }
        asked.hasPath = false;
        run.forget();
        return true;
    }

    public int round() {
        rounds.comeByRank();
        run.forget();
        return book.pathsGiven();
    }

    public int best() {
        if (book.size() < 1 || book.size() > MOST_BIDS_FOR_BEST) {
            return NONE;
        }
        rounds.comeByBestOrder();
        run.forget();
        return book.worthsGiven();
    }

    public int path(int bid, int station) {
        Bid asked = book.at(bid);
        if (asked == null || !asked.hasPath) {
            return NONE;
        }
        int step = asked.stepAtStation(station);
        if (step == NONE) {
            return NONE;
        }
        return step == asked.steps() ? asked.comes[step] : asked.leaves[step];
    }

    public int why(int what) {
        if (!isWithin(what, 0, 2) || !breaks.seekFirst()) {
            return NONE;
        }
        if (what == 0) {
            return breaks.bidNumber;
        }
        return what == 1 ? breaks.rule : breaks.minute;
    }

    public boolean delay(int bid, int station, int minutes) {
        Bid asked = book.at(bid);
        if (asked == null || !line.hasStation(station) || !isWithin(minutes, 0, MOST_DELAY)) {
            return false;
        }
        asked.delays[station] = minutes;
        run.forget();
        return true;
    }

    public int ran(int bid, int what) {
        Bid asked = book.at(bid);
        if (asked == null || !asked.hasPath) {
            return NONE;
        }
        run.bringUpToDate();
        return run.told(asked, what);
    }

    public int blame(int bid, int other) {
        if (book.at(bid) == null || book.at(other) == null) {
            return NONE;
        }
        run.bringUpToDate();
        return run.toOther[bid * MOST_BIDS + other];
    }

    public int balance(int house) {
        if (!isWithin(house, 0, HOUSES - 1)) {
            return 0;
        }
        run.bringUpToDate();
        return run.coinsOf(house);
    }

    public int count(int what) {
        switch (what) {
            case 0:
                return line.stations;
            case 1:
                return book.size();
            case 2:
                return book.pathsGiven();
            case 3:
                return book.worthsGiven();
            case 4:
                return line.worksCame;
            case 5:
                return line.headwayMinutes;
            default:
                return NONE;
        }
    }

    private static boolean isWithin(int number, int least, int most) {
        return number >= least && number <= most;
    }

    /** The stations and sections, and what closes them. */
    private static final class Line {
        final int stations;
        final boolean[] isDouble = new boolean[MOST_STATIONS];
        final int[] fastMinutes = new int[MOST_STATIONS];
        final int[] slowMinutes = new int[MOST_STATIONS];
        final int[] tracksAt = new int[MOST_STATIONS];
        final int[] worksSection = new int[MOST_WORKS];
        final int[] worksFrom = new int[MOST_WORKS];
        final int[] worksTo = new int[MOST_WORKS];
        int worksCame;
        int headwayMinutes = 1;

        Line(int stations) {
            this.stations = stations;
            for (int i = 0; i < MOST_STATIONS; i++) {
                fastMinutes[i] = 5;
                slowMinutes[i] = 8;
                tracksAt[i] = 2;
            }
        }

        boolean hasStation(int station) {
            return station >= 0 && station < stations;
        }

        boolean hasSection(int section) {
            return section >= 0 && section < stations - 1;
        }

        void setSection(int section, boolean twoWays, int fast, int slow) {
            isDouble[section] = twoWays;
            fastMinutes[section] = fast;
            slowMinutes[section] = slow;
        }

        void addWorks(int section, int from, int to) {
            worksSection[worksCame] = section;
            worksFrom[worksCame] = from;
            worksTo[worksCame] = to;
            worksCame++;
        }

        boolean isClosed(int section, int minute) {
            for (int i = 0; i < worksCame; i++) {
                if (worksSection[i] == section && minute >= worksFrom[i] && minute < worksTo[i]) {
                    return true;
                }
            }
            return false;
        }

        /** How many minutes a train holds a section beyond those in which it is in it. */
        int holdBehind() {
            return Math.max(0, headwayMinutes - 1);
        }

        /** Whether two trains that both go through a section can hold it against each other. */
        boolean isShared(int section, Bid one, Bid other) {
            return !isDouble[section] || one.way() == other.way();
        }

        int lengthOf(Bid bid, int step) {
            int section = bid.sectionAt(step);
            return bid.kind == 0 ? fastMinutes[section] : slowMinutes[section];
        }
    }

    /** A bid with the path that is given to it; its steps are its stations as they come, 0 the first one. */
    private static final class Bid {
        final int number;
        final int house;
        final int from;
        final int to;
        final int kind;
        final int earliest;
        final int latest;
        final int worth;
        final int rank;
        int partner = NONE;
        boolean hasPath;
        /** By steps: the minutes of leaving, but for the last one, and those of coming, but for the first one. */
        final int[] leaves = new int[MOST_STATIONS];
        final int[] comes = new int[MOST_STATIONS];
        /** By stations, so that one at which it doesn't come by can have a delay too. */
        final int[] delays = new int[MOST_STATIONS];

        Bid(int number, int what, int when, int worth, int rank) {
            this.number = number;
            this.house = what / 10000;
            this.from = what / 1000 % 10;
            this.to = what / 100 % 10;
            this.kind = what / 10 % 10;
            this.earliest = when / 1000;
            this.latest = when % 1000;
            this.worth = worth;
            this.rank = rank;
        }

        static boolean isWhat(int what, int stations) {
            if (what < 0 || what / 10000 >= HOUSES || what / 10 % 10 >= KINDS || what % 10 != 0) {
                return false;
            }
            int first = what / 1000 % 10;
            int last = what / 100 % 10;
            return first < stations && last < stations && first != last;
        }

        static boolean isWhen(int when) {
            return when >= 0 && when / 1000 < DAY_MINUTES && when % 1000 < DAY_MINUTES;
        }

        void takePath(int[] leaving, int[] coming) {
            for (int step = 0; step < MOST_STATIONS; step++) {
                leaves[step] = leaving[step];
                comes[step] = coming[step];
            }
            hasPath = true;
        }

        int steps() {
            return to > from ? to - from : from - to;
        }

        int way() {
            return to > from ? 1 : -1;
        }

        int stationAt(int step) {
            return from + way() * step;
        }

        int sectionAt(int step) {
            return to > from ? from + step : from - step - 1;
        }

        int stepAtStation(int station) {
            if (to > from) {
                return station >= from && station <= to ? station - from : NONE;
            }
            return station >= to && station <= from ? from - station : NONE;
        }

        int stepInSection(int section) {
            if (to > from) {
                return section >= from && section < to ? section - from : NONE;
            }
            return section >= to && section < from ? from - section - 1 : NONE;
        }
    }

    /** All bids, by number and by rank. */
    private static final class Book {
        final ArrayList<Bid> bids = new ArrayList<>();
        final ArrayList<Bid> byRank = new ArrayList<>();

        int size() {
            return bids.size();
        }

        Bid at(int number) {
            return number >= 0 && number < bids.size() ? bids.get(number) : null;
        }

        void add(Bid bid) {
            int place = byRank.size();
            while (place > 0 && byRank.get(place - 1).rank > bid.rank) {
                place--;
            }
            byRank.add(place, bid);
            bids.add(bid);
        }

        void dropAll() {
            for (int i = 0; i < bids.size(); i++) {
                bids.get(i).hasPath = false;
            }
        }

        int pathsGiven() {
            int paths = 0;
            for (int i = 0; i < bids.size(); i++) {
                paths += bids.get(i).hasPath ? 1 : 0;
            }
            return paths;
        }

        int worthsGiven() {
            int worths = 0;
            for (int i = 0; i < bids.size(); i++) {
                worths += bids.get(i).hasPath ? bids.get(i).worth : 0;
            }
            return worths;
        }
    }

    /** Finds the path of a bid beside those that are given to others. */
    private static final class PathSearch {
        private final Line line;
        private final Book book;
        /** By step and minute: whether the bid can come to that step in that minute. */
        private final boolean[] canCome = new boolean[MOST_STATIONS * DAY_MINUTES];
        /** Whether a leaving in that minute would break rule 1 or 2. */
        private final boolean[] isBlocked = new boolean[DAY_MINUTES];
        /** How many others stand in that minute. */
        private final int[] standing = new int[DAY_MINUTES];
        /** What was found last, by steps as in a bid. */
        final int[] leaves = new int[MOST_STATIONS];
        final int[] comes = new int[MOST_STATIONS];

        PathSearch(Line line, Book book) {
            this.line = line;
            this.book = book;
        }

        /** The minute of coming to the end, with the path in leaves and comes; NONE if there is none. */
        int endFor(Bid bid) {
            if (bid.earliest > bid.latest) {
                return NONE;
            }
            int steps = bid.steps();
            for (int step = 0; step < steps; step++) {
                clearMinutes(bid);
                blockByWorks(bid, step);
                blockByOthers(bid, step);
                countStanding(bid, step);
                clearComings(bid, step + 1);
                spreadComings(bid, step);
            }
            for (int minute = bid.earliest; minute <= bid.latest; minute++) {
                if (canCome[steps * DAY_MINUTES + minute]) {
                    traceBack(bid, minute);
                    return minute;
                }
            }
            return NONE;
        }

        private void clearComings(Bid bid, int step) {
            for (int minute = bid.earliest; minute <= bid.latest; minute++) {
                canCome[step * DAY_MINUTES + minute] = false;
            }
        }

        private void clearMinutes(Bid bid) {
            for (int minute = bid.earliest; minute <= bid.latest; minute++) {
                isBlocked[minute] = false;
                standing[minute] = 0;
            }
        }

        private void blockByWorks(Bid bid, int step) {
            int section = bid.sectionAt(step);
            int length = line.lengthOf(bid, step);
            for (int i = 0; i < line.worksCame; i++) {
                if (line.worksSection[i] == section) {
                    block(line.worksFrom[i] - length + 1, line.worksTo[i] - 1);
                }
            }
        }

        private void blockByOthers(Bid bid, int step) {
            int section = bid.sectionAt(step);
            int length = line.lengthOf(bid, step);
            int behind = line.holdBehind();
            for (int i = 0; i < book.bids.size(); i++) {
                Bid other = book.bids.get(i);
                int otherStep = other.stepInSection(section);
                if (other != bid && other.hasPath && otherStep != NONE && line.isShared(section, bid, other)) {
                    // Neither may be in the section while the other one holds it.
                    int lastToGoAhead = other.leaves[otherStep] - length - behind;
                    block(lastToGoAhead + 1, other.comes[otherStep + 1] - 1 + behind);
                }
            }
        }

        private void block(int first, int last) {
            int end = Math.min(last, DAY_MINUTES - 1);
            for (int minute = Math.max(first, 0); minute <= end; minute++) {
                isBlocked[minute] = true;
            }
        }

        private void countStanding(Bid bid, int step) {
            int station = bid.stationAt(step);
            for (int i = 0; i < book.bids.size(); i++) {
                Bid other = book.bids.get(i);
                int otherStep = other.stepAtStation(station);
                if (other != bid && other.hasPath && otherStep > 0 && otherStep < other.steps()) {
                    for (int minute = other.comes[otherStep]; minute < other.leaves[otherStep]; minute++) {
                        standing[minute]++;
                    }
                }
            }
        }

        /** From the minutes in which it can come to a step: those in which it can come to the next one. */
        private void spreadComings(Bid bid, int step) {
            int length = line.lengthOf(bid, step);
            int room = line.tracksAt[bid.stationAt(step)];
            int here = step * DAY_MINUTES;
            int next = here + DAY_MINUTES + length;
            // To wait at the first station is not to stand there, so nothing ends that.
            boolean isThere = step == 0;
            for (int minute = bid.earliest; minute + length <= bid.latest; minute++) {
                isThere = isThere || step > 0 && canCome[here + minute];
                if (isThere && !isBlocked[minute]) {
                    canCome[next + minute] = true;
                }
                if (step > 0 && standing[minute] >= room) {
                    isThere = false;
                }
            }
        }

        /** The latest coming to a step is that which stands least there. */
        private void traceBack(Bid bid, int end) {
            int coming = end;
            for (int step = bid.steps() - 1; step >= 0; step--) {
                int leaving = coming - line.lengthOf(bid, step);
                comes[step + 1] = coming;
                leaves[step] = leaving;
                coming = leaving;
                while (step > 0 && coming > bid.earliest && !canCome[step * DAY_MINUTES + coming]) {
                    coming--;
                }
            }
        }
    }

    /** Lets all bids come in an order: by rank, or by the best of all orders. */
    private static final class Rounds {
        private final Book book;
        private final PathSearch search;
        private final boolean[] hasCome = new boolean[MOST_BIDS];
        private final int[] order = new int[MOST_BIDS_FOR_BEST];
        private final int[] bestOrder = new int[MOST_BIDS_FOR_BEST];
        private int bestLength;
        private int bestWorth;

        Rounds(Book book, PathSearch search) {
            this.book = book;
            this.search = search;
        }

        void comeByRank() {
            startAnew();
            for (int i = 0; i < book.byRank.size(); i++) {
                Bid bid = book.byRank.get(i);
                if (!hasCome[bid.number]) {
                    comeWithPartner(bid);
                }
            }
        }

        void comeByBestOrder() {
            startAnew();
            bestWorth = NONE;
            bestLength = 0;
            int allWorths = 0;
            for (int i = 0; i < book.size(); i++) {
                allWorths += book.bids.get(i).worth;
            }
            tryOrders(this, 0, allWorths);
            startAnew();
            for (int i = 0; i < bestLength; i++) {
                Bid bid = book.at(bestOrder[i]);
                if (bid != null) {
                    comeWithPartner(bid);
                }
            }
        }

        /**
         * Tries all orders that begin with those that have come, the first one by numbers first.
         * The worths that can be reached at most are those given and those still to come.
         */
        private static void tryOrders(Rounds rounds, int depth, int reachable) {
            // An order that only does as well as one ahead of it is not the best.
            if (reachable <= rounds.bestWorth) {
                return;
            }
            boolean allCame = true;
            for (int i = 0; i < rounds.book.size() && depth < MOST_BIDS_FOR_BEST; i++) {
                Bid bid = rounds.book.bids.get(i);
                if (!rounds.hasCome[i] && reachable > rounds.bestWorth) {
                    allCame = false;
                    rounds.order[depth] = i;
                    int lost = rounds.comeWithPartner(bid);
                    tryOrders(rounds, depth + 1, reachable - lost);
                    rounds.takeBackWithPartner(bid);
                }
            }
            if (allCame) {
                rounds.keepOrder(depth, reachable);
            }
        }

        private void keepOrder(int length, int worth) {
            bestWorth = worth;
            bestLength = length;
            for (int i = 0; i < length; i++) {
                bestOrder[i] = order[i];
            }
        }

        private void startAnew() {
            book.dropAll();
            for (int i = 0; i < MOST_BIDS; i++) {
                hasCome[i] = false;
            }
        }

        /** A linked one comes right behind, both or neither are given a path; answers the worths that got none. */
        private int comeWithPartner(Bid bid) {
            Bid partner = book.at(bid.partner);
            hasCome[bid.number] = true;
            boolean found = search.endFor(bid) != NONE;
            if (found) {
                bid.takePath(search.leaves, search.comes);
            }
            if (partner == null) {
                return found ? 0 : bid.worth;
            }
            hasCome[partner.number] = true;
            if (found && search.endFor(partner) != NONE) {
                partner.takePath(search.leaves, search.comes);
                return 0;
            }
            bid.hasPath = false;
            return bid.worth + partner.worth;
        }

        private void takeBackWithPartner(Bid bid) {
            takeBack(bid);
            Bid partner = book.at(bid.partner);
            if (partner != null) {
                takeBack(partner);
            }
        }

        private void takeBack(Bid bid) {
            bid.hasPath = false;
            hasCome[bid.number] = false;
        }
    }

    /** Seeks the first break of what is given: by bids, of one by rules, of one by minutes. */
    private static final class Breaks {
        private final Line line;
        private final Book book;
        int bidNumber;
        int rule;
        int minute;

        Breaks(Line line, Book book) {
            this.line = line;
            this.book = book;
        }

        boolean seekFirst() {
            for (int i = 0; i < book.size(); i++) {
                Bid bid = book.bids.get(i);
                for (int r = 1; r <= RULES && bid.hasPath; r++) {
                    int broken = firstMinute(bid, r);
                    if (broken != NONE) {
                        bidNumber = i;
                        rule = r;
                        minute = broken;
                        return true;
                    }
                }
            }
            return false;
        }

        private int firstMinute(Bid bid, int asked) {
            if (asked == 1) {
                return firstClosed(bid);
            }
            return asked == 2 ? firstHeld(bid) : firstCrowded(bid);
        }

        private int firstClosed(Bid bid) {
            for (int step = 0; step < bid.steps(); step++) {
                for (int m = bid.leaves[step]; m < bid.comes[step + 1]; m++) {
                    if (line.isClosed(bid.sectionAt(step), m)) {
                        return m;
                    }
                }
            }
            return NONE;
        }

        private int firstHeld(Bid bid) {
            for (int step = 0; step < bid.steps(); step++) {
                for (int m = bid.leaves[step]; m < bid.comes[step + 1]; m++) {
                    if (isHeldByOther(bid, bid.sectionAt(step), m)) {
                        return m;
                    }
                }
            }
            return NONE;
        }

        private boolean isHeldByOther(Bid bid, int section, int m) {
            for (int i = 0; i < book.size(); i++) {
                Bid other = book.bids.get(i);
                int step = other.stepInSection(section);
                if (other != bid && other.hasPath && step != NONE && line.isShared(section, bid, other)
                        && m >= other.leaves[step] && m < other.comes[step + 1] + line.holdBehind()) {
                    return true;
                }
            }
            return false;
        }

        private int firstCrowded(Bid bid) {
            for (int step = 1; step < bid.steps(); step++) {
                int station = bid.stationAt(step);
                for (int m = bid.comes[step]; m < bid.leaves[step]; m++) {
                    if (standingAt(station, m) > line.tracksAt[station]) {
                        return m;
                    }
                }
            }
            return NONE;
        }

        private int standingAt(int station, int m) {
            int standing = 0;
            for (int i = 0; i < book.size(); i++) {
                Bid bid = book.bids.get(i);
                int step = bid.stepAtStation(station);
                if (bid.hasPath && step > 0 && step < bid.steps()
                        && m >= bid.comes[step] && m < bid.leaves[step]) {
                    standing++;
                }
            }
            return standing;
        }
    }

    /** The run of what is given; it is kept till something changes on which it hangs. */
    private static final class Run {
        private final Line line;
        private final Book book;
        private boolean isUpToDate;
        private final int[] stepOf = new int[MOST_BIDS];
        /** The minute from which on a train is at its step. */
        private final int[] thereFrom = new int[MOST_BIDS];
        private final int[] delayLeft = new int[MOST_BIDS];
        private final int[] toSelf = new int[MOST_BIDS];
        private final int[] toNone = new int[MOST_BIDS];
        /** By train and by the one to which its minutes are put down. */
        final int[] toOther = new int[MOST_BIDS * MOST_BIDS];
        /** By section and way: in a single one both ways are one. */
        private final int[] holder = new int[MOST_STATIONS * 2];
        private final int[] heldTill = new int[MOST_STATIONS * 2];

        Run(Line line, Book book) {
            this.line = line;
            this.book = book;
        }

        void forget() {
            isUpToDate = false;
        }

        void bringUpToDate() {
            if (isUpToDate) {
                return;
            }
            reset();
            for (int minute = 0; minute < RUN_MINUTES; minute++) {
                for (int i = 0; i < book.byRank.size(); i++) {
                    Bid bid = book.byRank.get(i);
                    if (wantsToLeave(bid, minute)) {
                        leaveOrPutDown(bid, minute);
                    }
                }
            }
            isUpToDate = true;
        }

        private void reset() {
            for (int i = 0; i < holder.length; i++) {
                holder[i] = NONE;
                heldTill[i] = NONE;
            }
            for (int i = 0; i < toOther.length; i++) {
                toOther[i] = 0;
            }
            for (int i = 0; i < book.size(); i++) {
                Bid bid = book.bids.get(i);
                stepOf[i] = 0;
                thereFrom[i] = 0;
                delayLeft[i] = bid.delays[bid.from];
                toSelf[i] = 0;
                toNone[i] = 0;
            }
        }

        private boolean wantsToLeave(Bid bid, int minute) {
            int step = stepOf[bid.number];
            return bid.hasPath && step < bid.steps() && thereFrom[bid.number] <= minute && bid.leaves[step] <= minute;
        }

        private void leaveOrPutDown(Bid bid, int minute) {
            int train = bid.number;
            int section = bid.sectionAt(stepOf[train]);
            int held = section * 2 + (line.isDouble[section] && bid.way() < 0 ? 1 : 0);
            if (delayLeft[train] > 0) {
                delayLeft[train]--;
                toSelf[train]++;
            } else if (line.isClosed(section, minute)) {
                toNone[train]++;
            } else if (heldTill[held] >= minute && holder[held] != NONE) {
                toOther[train * MOST_BIDS + holder[held]]++;
            } else {
                int length = line.lengthOf(bid, stepOf[train]);
                holder[held] = train;
                heldTill[held] = minute + length - 1 + line.holdBehind();
                stepOf[train]++;
                thereFrom[train] = minute + length;
                delayLeft[train] = bid.delays[bid.stationAt(stepOf[train])];
            }
        }

        int told(Bid bid, int what) {
            int train = bid.number;
            int end = thereFrom[train];
            if (stepOf[train] < bid.steps() || end >= RUN_MINUTES) {
                return NONE;
            }
            int late = end - bid.comes[bid.steps()];
            switch (what) {
                case 0:
                    return end;
                case 1:
                    return late;
                case 2:
                    return toSelf[train];
                case 3:
                    return toNone[train];
                case 4:
                    return toOthers(train);
                case 5:
                    return toSelf[train] + toNone[train] + toOthers(train) - late;
                default:
                    return NONE;
            }
        }

        private int toOthers(int train) {
            int minutes = 0;
            for (int other = 0; other < book.size(); other++) {
                minutes += toOther[train * MOST_BIDS + other];
            }
            return minutes;
        }

        /** What a house is owed by other houses, less what it owes to them. */
        int coinsOf(int house) {
            int coins = 0;
            for (int train = 0; train < book.size(); train++) {
                for (int other = 0; other < book.size(); other++) {
                    int minutes = toOther[train * MOST_BIDS + other];
                    // Of one house both fall out against each other.
                    coins += book.bids.get(train).house == house ? minutes : 0;
                    coins -= book.bids.get(other).house == house ? minutes : 0;
                }
            }
            return coins;
        }
    }
}
