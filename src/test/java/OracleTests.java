import java.util.ArrayDeque;
import java.util.ArrayList;
import java.util.Arrays;
import java.util.HashSet;
import java.util.List;
import java.util.Set;

/** Many graphs against a plain reading of the document, which walks the ways one by one. */
public final class OracleTests {
    private static final int MOST_POINTS = 120;
    private static final int REFERENCES = 16;
    private static int wrong = 0;

    /** A sequence that is the same in each run. */
    private static final class Dice {
        private long state;

        Dice(long seed) {
            state = seed * 0x9E3779B97F4A7C15L + 0x1234567;
        }

        int below(int bound) {
            state = state * 6364136223846793005L + 1442695040888963407L;
            return (int) ((state >>> 33) % bound);
        }
    }

    /** Objects that are told the same, each used for 512 calls at most, since what later calls answer is free. */
    private static final class Desk {
        private static final int MOST_CALLS = 512;

        private final List<int[]> told = new ArrayList<>();
        private LoanDesk desk = new LoanDesk();
        private int calls = 0;

        private LoanDesk called() {
            if (calls == MOST_CALLS) {
                renew();
            }
            calls++;
            return desk;
        }

        private void renew() {
            desk = new LoanDesk();
            calls = told.size();
            for (int[] row : told) {
                if (row.length == 4) {
                    desk.point(row[0], row[1], row[2], row[3]);
                } else {
                    desk.next(row[0], row[1], row[2]);
                }
            }
        }

        int point(int doing, int a, int b, int c) {
            int number = called().point(doing, a, b, c);
            told.add(new int[] {doing, a, b, c});
            return number;
        }

        boolean next(int point, int x, int y) {
            boolean taken = called().next(point, x, y);
            told.add(new int[] {point, x, y});
            return taken;
        }

        int clear() {
            int before = called().clear();
            told.clear();
            return before;
        }

        boolean isReached(int point) {
            return called().isReached(point);
        }

        int holders(int point, int loan) {
            return called().holders(point, loan);
        }

        int used(int point) {
            return called().used(point);
        }

        boolean isAlive(int point, int loan) {
            return called().isAlive(point, loan);
        }

        int met(int point, int after) {
            return called().met(point, after);
        }

        int count(int what) {
            return called().count(what);
        }
    }

    /** One point as the document tells it. */
    private static final class Spot {
        final int doing;
        final int a;
        final int b;
        final int c;
        int x;
        int y;

        Spot(int number, int doing, int a, int b, int c) {
            this.doing = doing;
            this.a = a;
            this.b = b;
            this.c = c;
            x = number + 1;
            y = -1;
        }
    }

    /** On one way a reference holds one loan or none: all that can be is walked, state by state. */
    private static final class Oracle {
        final List<Spot> spots = new ArrayList<>();
        boolean[] reached;
        boolean[][][] holds;
        boolean[][] later;

        int point(int doing, int a, int b, int c) {
            boolean referenceA = a >= 0 && a <= 15;
            boolean referenceB = b >= 0 && b <= 15;
            boolean place = ("" + b).matches("[1-9]{1,4}");
            boolean good = doing == 0
                || doing == 1 && referenceA && place && (c == 0 || c == 1)
                || doing == 2 && referenceA && referenceB
                || (doing == 3 || doing == 4) && referenceA
                || (doing == 5 || doing == 6) && place;
            if (!good || spots.size() == MOST_POINTS) {
                return -1;
            }
            reached = null;
            spots.add(new Spot(spots.size(), doing, a, b, c));
            return spots.size() - 1;
        }

        boolean next(int point, int x, int y) {
            if (!isPoint(point) || x < -1 || x > 119 || y < -1 || y > 119) {
                return false;
            }
            reached = null;
            spots.get(point).x = x;
            spots.get(point).y = y;
            return true;
        }

        int clear() {
            int before = spots.size();
            reached = null;
            spots.clear();
            return before;
        }

        boolean isPoint(int number) {
            return number >= 0 && number < spots.size();
        }

        List<Integer> nexts(int point) {
            List<Integer> found = new ArrayList<>();
            for (int next : new int[] {spots.get(point).x, spots.get(point).y}) {
                if (isPoint(next)) {
                    found.add(next);
                }
            }
            return found;
        }

        void walk() {
            if (reached != null) {
                return;
            }
            int size = spots.size();
            reached = new boolean[size];
            holds = new boolean[size][REFERENCES][size];
            later = new boolean[size][REFERENCES];
            walkForward();
            for (int point = 0; point < size; point++) {
                for (int reference = 0; reference < REFERENCES; reference++) {
                    later[point][reference] = isUsedLater(point, reference);
                }
            }
        }

        private void walkForward() {
            Set<List<Integer>> seen = new HashSet<>();
            ArrayDeque<List<Integer>> open = new ArrayDeque<>();
            Integer[] start = new Integer[REFERENCES + 1];
            Arrays.fill(start, -1);
            start[REFERENCES] = 0;
            if (isPoint(0)) {
                open.add(Arrays.asList(start));
            }
            while (!open.isEmpty()) {
                List<Integer> state = open.remove();
                if (!seen.add(state)) {
                    continue;
                }
                int point = state.get(REFERENCES);
                List<Integer> behind = doneAt(point, state);
                for (int next : nexts(point)) {
                    List<Integer> on = new ArrayList<>(behind);
                    on.set(REFERENCES, next);
                    open.add(on);
                }
            }
        }

        private List<Integer> doneAt(int point, List<Integer> state) {
            Spot spot = spots.get(point);
            List<Integer> behind = new ArrayList<>(state);
            if (spot.doing == 1) {
                behind.set(spot.a, point);
            } else if (spot.doing == 2) {
                behind.set(spot.a, state.get(spot.b));
            } else if (spot.doing == 3) {
                behind.set(spot.a, -1);
            }
            reached[point] = true;
            for (int reference = 0; reference < REFERENCES; reference++) {
                if (behind.get(reference) >= 0) {
                    holds[point][reference][behind.get(reference)] = true;
                }
            }
            return behind;
        }

        private boolean isUsedLater(int point, int reference) {
            boolean[] seen = new boolean[spots.size()];
            ArrayDeque<Integer> open = new ArrayDeque<>(nexts(point));
            while (!open.isEmpty()) {
                int at = open.remove();
                if (seen[at]) {
                    continue;
                }
                seen[at] = true;
                Spot spot = spots.get(at);
                if (spot.doing == 4 && spot.a == reference || spot.doing == 2 && spot.b == reference) {
                    return true;
                }
                boolean isToldAnew = spot.doing >= 1 && spot.doing <= 3 && spot.a == reference;
                if (!isToldAnew) {
                    open.addAll(nexts(at));
                }
            }
            return false;
        }

        boolean isReached(int point) {
            walk();
            return isPoint(point) && reached[point];
        }

        int holders(int point, int loan) {
            walk();
            int bits = 0;
            for (int reference = 0; reference < REFERENCES && isPoint(point) && isPoint(loan); reference++) {
                bits |= holds[point][reference][loan] ? 1 << reference : 0;
            }
            return bits;
        }

        int used(int point) {
            walk();
            int bits = 0;
            for (int reference = 0; reference < REFERENCES && isPoint(point); reference++) {
                bits |= later[point][reference] ? 1 << reference : 0;
            }
            return bits;
        }

        boolean isAlive(int point, int loan) {
            return (holders(point, loan) & used(point)) != 0;
        }

        boolean meets(int point, int loan) {
            if (!isReached(point) || !isAlive(point, loan)) {
                return false;
            }
            Spot spot = spots.get(point);
            Spot lent = spots.get(loan);
            boolean looks = spot.doing == 5 || spot.doing == 1 && spot.c == 0;
            boolean changes = spot.doing == 6 || spot.doing == 1 && spot.c == 1;
            if (!changes && !(looks && lent.c == 1)) {
                return false;
            }
            String one = "" + spot.b;
            String other = "" + lent.b;
            if (!one.startsWith(other) && !other.startsWith(one)) {
                return false;
            }
            return spot.doing != 1 || (holders(point, loan) & used(point)) != 1 << spot.a;
        }

        int met(int point, int after) {
            for (int loan = 0; loan < spots.size(); loan++) {
                if (loan > after && isPoint(point) && meets(point, loan)) {
                    return loan;
                }
            }
            return -1;
        }

        int count(int what) {
            int reachedOnes = 0;
            int meeting = 0;
            int first = -1;
            int loans = 0;
            for (int point = 0; point < spots.size(); point++) {
                reachedOnes += isReached(point) ? 1 : 0;
                loans += spots.get(point).doing == 1 ? 1 : 0;
                if (met(point, -1) >= 0) {
                    meeting++;
                    first = first < 0 ? point : first;
                }
            }
            return what == 0 ? spots.size() : what == 1 ? reachedOnes : what == 2 ? meeting : what == 3 ? first : what == 4 ? loans : -1;
        }
    }

    private static void due(String what, int got, int want) {
        if (got != want) {
            wrong++;
            if (wrong <= 20) {
                System.out.println(what + " answered " + got + ", due is " + want);
            }
        }
    }

    private static void due(String what, boolean got, boolean want) {
        due(what, got ? 1 : 0, want ? 1 : 0);
    }

    private static int place(Dice dice) {
        int place = 1 + dice.below(2);
        int steps = dice.below(4);
        for (int i = 0; i < steps; i++) {
            place = place * 10 + 1 + dice.below(2);
        }
        return dice.below(30) == 0 ? place * 10 : place;
    }

    private static int reference(Dice dice, int references) {
        return dice.below(60) == 0 ? 16 - 17 * dice.below(2) : dice.below(references);
    }

    private static void addPoint(String run, Dice dice, Desk desk, Oracle oracle, int references) {
        int doing = dice.below(50) == 0 ? 7 - 8 * dice.below(2) : dice.below(4) == 0 ? 1 : dice.below(7);
        int a = reference(dice, references);
        int b = doing == 2 ? reference(dice, references) : place(dice);
        int c = dice.below(40) == 0 ? 2 : dice.below(2);
        due(run + "point", desk.point(doing, a, b, c), oracle.point(doing, a, b, c));
    }

    private static void tellNext(String run, Dice dice, Desk desk, Oracle oracle) {
        int size = oracle.spots.size();
        int point = dice.below(size + 2) - (dice.below(20) == 0 ? 1 : 0);
        int x = dice.below(3) == 0 ? dice.below(size + 4) - 2 : Math.min(119, point + 1);
        int y = dice.below(size + 4) - 2;
        due(run + "next", desk.next(point, x, y), oracle.next(point, x, y));
    }

    private static void ask(String run, Dice dice, Desk desk, Oracle oracle) {
        int size = oracle.spots.size();
        int point = dice.below(size + 2) - 1;
        int other = dice.below(size + 3) - 2;
        switch (dice.below(6)) {
            case 0 -> due(run + "isReached(" + point + ")", desk.isReached(point), oracle.isReached(point));
            case 1 -> due(run + "holders(" + point + ", " + other + ")", desk.holders(point, other), oracle.holders(point, other));
            case 2 -> due(run + "used(" + point + ")", desk.used(point), oracle.used(point));
            case 3 -> due(run + "isAlive(" + point + ", " + other + ")", desk.isAlive(point, other), oracle.isAlive(point, other));
            case 4 -> due(run + "met(" + point + ", " + other + ")", desk.met(point, other), oracle.met(point, other));
            default -> {
                int what = dice.below(7) - 1;
                due(run + "count(" + what + ")", desk.count(what), oracle.count(what));
            }
        }
    }

    private static void askAll(String run, Desk desk, Oracle oracle) {
        int size = oracle.spots.size();
        for (int what = -1; what <= 5; what++) {
            due(run + "count(" + what + ")", desk.count(what), oracle.count(what));
        }
        for (int point = 0; point < size; point++) {
            due(run + "isReached(" + point + ")", desk.isReached(point), oracle.isReached(point));
            due(run + "used(" + point + ")", desk.used(point), oracle.used(point));
            for (int loan = 0; loan < size; loan++) {
                due(run + "holders(" + point + ", " + loan + ")", desk.holders(point, loan), oracle.holders(point, loan));
                due(run + "isAlive(" + point + ", " + loan + ")", desk.isAlive(point, loan), oracle.isAlive(point, loan));
                due(run + "met(" + point + ", " + (loan - 1) + ")", desk.met(point, loan - 1), oracle.met(point, loan - 1));
            }
        }
    }

    private static void smallGraph(int seed) {
        Dice dice = new Dice(seed);
        Desk desk = new Desk();
        Oracle oracle = new Oracle();
        String run = "small graph " + seed + ": ";
        int references = 1 + dice.below(4);
        int points = 1 + dice.below(14);
        for (int i = 0; i < 40; i++) {
            int roll = dice.below(10);
            if (oracle.spots.size() < points && roll < 5) {
                addPoint(run, dice, desk, oracle, references);
            } else if (roll < 7) {
                tellNext(run, dice, desk, oracle);
            } else {
                ask(run, dice, desk, oracle);
            }
            if (dice.below(80) == 0) {
                due(run + "clear", desk.clear(), oracle.clear());
            }
        }
        askAll(run, desk, oracle);
    }

    /** Up to the last point and the last reference, with few forks, so that the ways can still be walked. */
    private static void largeGraph(int seed) {
        Dice dice = new Dice(1000000 + seed);
        Desk desk = new Desk();
        Oracle oracle = new Oracle();
        String run = "large graph " + seed + ": ";
        for (int i = 0; i < 130; i++) {
            addPoint(run, dice, desk, oracle, REFERENCES);
        }
        for (int i = 0; i < 4; i++) {
            int point = dice.below(MOST_POINTS);
            int y = Math.min(119, point + 2 + dice.below(10));
            due(run + "next", desk.next(point, Math.min(119, point + 1), y), oracle.next(point, Math.min(119, point + 1), y));
        }
        askAll(run, desk, oracle);
    }

    private static final int[] EDGES = {Integer.MIN_VALUE, Integer.MIN_VALUE + 1, -65536, -2, -1, 0, 1, 2, 3, 4, 5, 6, 7, 9, 10, 11, 15, 16, 31, 32,
        99, 100, 111, 118, 119, 120, 121, 999, 1000, 1111, 9999, 10000, 11111, 65536, Integer.MAX_VALUE - 1, Integer.MAX_VALUE};

    private static int edge(Dice dice) {
        return dice.below(3) == 0 ? EDGES[dice.below(EDGES.length)] : dice.below(8);
    }

    /** Any call in any state with any arguments, those at the edges above all. */
    private static void wildCalls(int seed) {
        Dice dice = new Dice(2000000 + seed);
        Desk desk = new Desk();
        Oracle oracle = new Oracle();
        String run = "wild calls " + seed + ": ";
        for (int i = 0; i < 300; i++) {
            int p = edge(dice);
            int q = edge(dice);
            int r = edge(dice);
            int s = edge(dice);
            switch (dice.below(12)) {
                case 0, 1, 2 -> due(run + "point", desk.point(p, q, r, s), oracle.point(p, q, r, s));
                case 3, 4 -> due(run + "next", desk.next(p, q, r), oracle.next(p, q, r));
                case 5 -> due(run + "isReached(" + p + ")", desk.isReached(p), oracle.isReached(p));
                case 6 -> due(run + "holders(" + p + ", " + q + ")", desk.holders(p, q), oracle.holders(p, q));
                case 7 -> due(run + "used(" + p + ")", desk.used(p), oracle.used(p));
                case 8 -> due(run + "isAlive(" + p + ", " + q + ")", desk.isAlive(p, q), oracle.isAlive(p, q));
                case 9 -> due(run + "met(" + p + ", " + q + ")", desk.met(p, q), oracle.met(p, q));
                case 10 -> due(run + "count(" + p + ")", desk.count(p), oracle.count(p));
                default -> {
                    if (dice.below(5) == 0) {
                        due(run + "clear", desk.clear(), oracle.clear());
                    }
                }
            }
        }
    }

    public static void main(String[] args) {
        for (int seed = 0; seed < 400; seed++) {
            wildCalls(seed);
        }
        for (int seed = 0; seed < 4000; seed++) {
            smallGraph(seed);
        }
        for (int seed = 0; seed < 40; seed++) {
            largeGraph(seed);
        }
        System.out.println(wrong == 0 ? "all graphs agree" : wrong + " answers differ");
        if (wrong != 0) {
            System.exit(1);
        }
    }
}
