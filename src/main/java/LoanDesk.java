import java.util.Arrays;

/** Loans over a graph of points: which loans references hold, which are alive, and which doings meet one. */
public final class LoanDesk {
    private static final int MOST_POINTS = 120;
    private static final int REFERENCES = 16;
    private static final int MOST_DIGITS = 4;
    private static final int NONE = -1;

    private static final int NOTHING = 0;
    private static final int BORROW = 1;
    private static final int COPY = 2;
    private static final int END = 3;
    private static final int USE = 4;
    private static final int LOOK = 5;
    private static final int CHANGE = 6;

    private static final int COUNT_POINTS = 0;
    private static final int COUNT_REACHED = 1;
    private static final int COUNT_MEETING = 2;
    private static final int FIRST_MEETING = 3;
    private static final int COUNT_LOANS = 4;

    private final Graph graph = new Graph();
    private final Reach reach = new Reach();
    private final Uses uses = new Uses();
    private final Holding holding = new Holding();
    private final Meetings meetings = new Meetings();

    // What is found out about the graph is kept until the graph changes.
    private boolean waysKnown = false;
    private boolean meetingsKnown = false;

    public LoanDesk() {
    }

    public int point(int doing, int a, int b, int c) {
        if (!isDoing(doing, a, b, c) || !graph.hasRoom()) {
            return NONE;
        }
        forgetFindings();
        return graph.add(doing, a, b, c);
    }

    public boolean next(int point, int x, int y) {
        if (!graph.isPoint(point) || !isNext(x) || !isNext(y)) {
            return false;
        }
        forgetFindings();
        graph.tellNext(point, x, y);
        return true;
    }

    public boolean isReached(int point) {
        if (!graph.isPoint(point)) {
            return false;
        }
        findWays();
        return reach.comesTo(point);
    }

    public int holders(int point, int loan) {
        if (!graph.isPoint(point) || !graph.isLoan(loan)) {
            return 0;
        }
        findWays();
        if (!reach.comesTo(loan)) {
            return 0;
        }
        holding.follow(graph, loan);
        return holding.behind(point);
    }

    public int used(int point) {
        if (!graph.isPoint(point)) {
            return 0;
        }
        findWays();
        return uses.behind(point);
    }

    public boolean isAlive(int point, int loan) {
        return (holders(point, loan) & used(point)) != 0;
    }

    public int met(int point, int after) {
        if (!graph.isPoint(point)) {
            return NONE;
        }
        findMeetings();
        return meetings.leastAbove(point, after);
    }

    public int count(int what) {
        switch (what) {
            case COUNT_POINTS:
                return graph.size();
            case COUNT_REACHED:
                findWays();
                return reach.countPoints();
            case COUNT_MEETING:
                findMeetings();
                return meetings.countPoints();
            case FIRST_MEETING:
                findMeetings();
                return meetings.firstPoint();
            case COUNT_LOANS:
                return graph.countLoans();
            default:
                return NONE;
        }
    }

    public int clear() {
        int before = graph.size();
        forgetFindings();
        graph.empty();
        return before;
    }

    private static boolean isDoing(int doing, int a, int b, int c) {
        switch (doing) {
            case NOTHING:
                return true;
            case BORROW:
                return isReference(a) && isPlace(b) && (c == 0 || c == 1);
            case COPY:
                return isReference(a) && isReference(b);
            case END:
            case USE:
                return isReference(a);
            case LOOK:
            case CHANGE:
                return isPlace(b);
            default:
                return false;
        }
    }

    private static boolean isReference(int number) {
        return number >= 0 && number < REFERENCES;
    }

    private static boolean isPlace(int number) {
        int rest = number;
        for (int digit = 0; digit < MOST_DIGITS && rest > 0; digit++) {
            if (rest % 10 == 0) {
                return false;
            }
            rest /= 10;
        }
        return number > 0 && rest == 0;
    }

    private static boolean isNext(int number) {
        return number == NONE || isIndex(number);
    }

    /** Whether a row with an element a point has such an element. */
    private static boolean isIndex(int number) {
        return number >= 0 && number < MOST_POINTS;
    }

    private void forgetFindings() {
        waysKnown = false;
        meetingsKnown = false;
    }

    private void findWays() {
        if (waysKnown) {
            return;
        }
        reach.find(graph);
        uses.find(graph);
        waysKnown = true;
    }

    private void findMeetings() {
        if (meetingsKnown) {
            return;
        }
        findWays();
        meetings.empty();
        for (int loan = 0; loan < graph.size(); loan++) {
            if (graph.isLoan(loan) && reach.comesTo(loan)) {
                holding.follow(graph, loan);
                addMeetings(loan);
            }
        }
        meetingsKnown = true;
    }

    private void addMeetings(int loan) {
        for (int point = 0; point < graph.size(); point++) {
            int keeping = holding.behind(point) & uses.behind(point) & ~graph.borrowing(point);
            if (keeping != 0 && graph.touches(point, loan)) {
                meetings.add(point, loan);
            }
        }
    }

    /** The points, their doings and what can come next to them. */
    private static final class Graph {
        private final int[] doings = new int[MOST_POINTS];
        private final int[] as = new int[MOST_POINTS];
        private final int[] bs = new int[MOST_POINTS];
        private final int[] cs = new int[MOST_POINTS];
        private final int[] xs = new int[MOST_POINTS];
        private final int[] ys = new int[MOST_POINTS];
        private int size = 0;

        int size() {
            return size;
        }

        boolean hasRoom() {
            return size < MOST_POINTS;
        }

        boolean isPoint(int number) {
            return number >= 0 && number < size && number < MOST_POINTS;
        }

        boolean isLoan(int number) {
            return isPoint(number) && doings[number] == BORROW;
        }

        int countLoans() {
            int found = 0;
            for (int point = 0; point < size; point++) {
                if (isLoan(point)) {
                    found++;
                }
            }
            return found;
        }

        int add(int doing, int a, int b, int c) {
            if (!hasRoom()) {
                return NONE;
            }
            int point = size;
            doings[point] = doing;
            as[point] = a;
            bs[point] = b;
            cs[point] = c;
            xs[point] = point + 1;
            ys[point] = NONE;
            size = point + 1;
            return point;
        }

        void tellNext(int point, int x, int y) {
            if (isPoint(point)) {
                xs[point] = x;
                ys[point] = y;
            }
        }

        void empty() {
            size = 0;
        }

        int firstNext(int point) {
            return isPoint(point) ? xs[point] : NONE;
        }

        int secondNext(int point) {
            return isPoint(point) ? ys[point] : NONE;
        }

        /** The holders of a loan behind a point, by those ahead of it. */
        int heldBehind(int point, int loan, int ahead) {
            if (!isPoint(point)) {
                return 0;
            }
            switch (doings[point]) {
                case BORROW:
                    return withHolder(ahead, as[point], point == loan);
                case COPY:
                    return withHolder(ahead, as[point], (ahead & 1 << bs[point]) != 0);
                case END:
                    return withHolder(ahead, as[point], false);
                default:
                    return ahead;
            }
        }

        private static int withHolder(int holders, int reference, boolean holds) {
            int bit = 1 << reference;
            return holds ? holders | bit : holders & ~bit;
        }

        /** The references used at a point or later, by those used later behind it; 0 where no point is. */
        int usedFrom(int point, int behind) {
            if (!isPoint(point)) {
                return 0;
            }
            switch (doings[point]) {
                case BORROW:
                case END:
                    return behind & ~(1 << as[point]);
                case COPY:
                    // b is read ahead of a's change, so a copy of a reference to itself uses it.
                    return behind & ~(1 << as[point]) | 1 << bs[point];
                case USE:
                    return behind | 1 << as[point];
                default:
                    return behind;
            }
        }

        /** The reference that a BORROW gives its loan to, as a bit; 0 of another doing. */
        int borrowing(int point) {
            return isLoan(point) ? 1 << as[point] : 0;
        }

        /** Whether a point's doing and a loan go ill together, were the loan alive. */
        boolean touches(int point, int loan) {
            if (!isPoint(point) || !isLoan(loan)) {
                return false;
            }
            boolean isAgainst = isChange(point) || isLook(point) && cs[loan] == 1;
            return isAgainst && overlap(bs[point], bs[loan]);
        }

        private boolean isChange(int point) {
            return isPoint(point) && (doings[point] == CHANGE || doings[point] == BORROW && cs[point] == 1);
        }

        private boolean isLook(int point) {
            return isPoint(point) && (doings[point] == LOOK || doings[point] == BORROW && cs[point] == 0);
        }

        private static boolean overlap(int place, int other) {
            int shorter = Math.min(place, other);
            int longer = Math.max(place, other);
            for (int dropped = 0; dropped < MOST_DIGITS && longer > shorter; dropped++) {
                longer /= 10;
            }
            return longer == shorter;
        }
    }

    /** Points that still have to be looked at, each at most once at a time. */
    private static final class Pile {
        private final int[] points = new int[MOST_POINTS];
        private final boolean[] isIn = new boolean[MOST_POINTS];
        private int size = 0;

        boolean isEmpty() {
            return size <= 0;
        }

        void put(int point) {
            if (!isIndex(point) || !isIndex(size) || isIn[point]) {
                return;
            }
            isIn[point] = true;
            points[size] = point;
            size++;
        }

        int take() {
            if (!isIndex(size - 1)) {
                return NONE;
            }
            size--;
            int point = points[size];
            if (isIndex(point)) {
                isIn[point] = false;
            }
            return point;
        }
    }

    /** Which points a way comes to. */
    private static final class Reach {
        private final int[] reached = new int[MOST_POINTS];
        private final Pile pile = new Pile();

        boolean comesTo(int point) {
            return isIndex(point) && reached[point] == 1;
        }

        int countPoints() {
            int found = 0;
            for (int point = 0; point < MOST_POINTS; point++) {
                found += reached[point];
            }
            return found;
        }

        void find(Graph graph) {
            Arrays.fill(reached, 0);
            arrive(graph, 0);
            // A point arrives once, so it is taken once.
            for (int taken = 0; taken < MOST_POINTS && !pile.isEmpty(); taken++) {
                int point = pile.take();
                arrive(graph, graph.firstNext(point));
                arrive(graph, graph.secondNext(point));
            }
        }

        private void arrive(Graph graph, int point) {
            if (graph.isPoint(point) && !comesTo(point)) {
                reached[point] = 1;
                pile.put(point);
            }
        }
    }

    /** Which references are used later behind each point. */
    private static final class Uses {
        private final int[] later = new int[MOST_POINTS];

        int behind(int point) {
            return isIndex(point) ? later[point] : 0;
        }

        void find(Graph graph) {
            Arrays.fill(later, 0);
            boolean grown = true;
            // Each round but the last adds a reference to some point.
            for (int round = 0; round <= MOST_POINTS * REFERENCES && grown; round++) {
                grown = growAll(graph);
            }
        }

        private boolean growAll(Graph graph) {
            boolean grown = false;
            // From the last point down, since most ways go up and uses are seen from ahead of them.
            for (int point = Math.min(graph.size(), MOST_POINTS) - 1; point >= 0; point--) {
                int x = graph.firstNext(point);
                int y = graph.secondNext(point);
                int more = later[point] | graph.usedFrom(x, behind(x)) | graph.usedFrom(y, behind(y));
                if (more != later[point]) {
                    later[point] = more;
                    grown = true;
                }
            }
            return grown;
        }
    }

    /** Which references hold one loan, ahead of each point and behind it. */
    private static final class Holding {
        private final int[] ahead = new int[MOST_POINTS];
        private final int[] behind = new int[MOST_POINTS];
        private final Pile pile = new Pile();

        int behind(int point) {
            return isIndex(point) ? behind[point] : 0;
        }

        /** Follows a loan from its point, which a way must come to, along all ways on. */
        void follow(Graph graph, int loan) {
            Arrays.fill(ahead, 0);
            Arrays.fill(behind, 0);
            pile.put(loan);
            // A point comes back to the pile only with one more holder ahead of it.
            for (int taken = 0; taken <= MOST_POINTS * REFERENCES && !pile.isEmpty(); taken++) {
                pass(graph, loan, pile.take());
            }
        }

        private void pass(Graph graph, int loan, int point) {
            if (!isIndex(point)) {
                return;
            }
            int holders = graph.heldBehind(point, loan, ahead[point]);
            behind[point] = holders;
            handOn(graph, graph.firstNext(point), holders);
            handOn(graph, graph.secondNext(point), holders);
        }

        private void handOn(Graph graph, int point, int holders) {
            if (!graph.isPoint(point)) {
                return;
            }
            int more = ahead[point] | holders;
            if (more != ahead[point]) {
                ahead[point] = more;
                pile.put(point);
            }
        }
    }

    /** Which loans each point meets: a bit a loan, in two words a point. */
    private static final class Meetings {
        private static final int WORD = 64;

        private final long[] words = new long[2 * MOST_POINTS];

        void empty() {
            Arrays.fill(words, 0L);
        }

        void add(int point, int loan) {
            if (isIndex(point) && isIndex(loan)) {
                words[2 * point + loan / WORD] |= 1L << loan % WORD;
            }
        }

        int countPoints() {
            int found = 0;
            for (int point = 0; point < MOST_POINTS; point++) {
                if (isAnyAt(point)) {
                    found++;
                }
            }
            return found;
        }

        int firstPoint() {
            for (int point = 0; point < MOST_POINTS; point++) {
                if (isAnyAt(point)) {
                    return point;
                }
            }
            return NONE;
        }

        int leastAbove(int point, int after) {
            for (int loan = 0; loan < MOST_POINTS; loan++) {
                if (loan > after && isAt(point, loan)) {
                    return loan;
                }
            }
            return NONE;
        }

        private boolean isAnyAt(int point) {
            return isIndex(point) && (words[2 * point] | words[2 * point + 1]) != 0L;
        }

        private boolean isAt(int point, int loan) {
            return isIndex(point) && isIndex(loan) && (words[2 * point + loan / WORD] >>> loan % WORD & 1L) == 1L;
        }
    }
}
