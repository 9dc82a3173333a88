import java.util.ArrayList;
import java.util.List;

/** Each sentence of the document that names a boundary has a test of its own here, headed by that sentence. */
public final class BoundaryTests {
    private static final int LEAST = Integer.MIN_VALUE;
    private static final int MOST = Integer.MAX_VALUE;
    private static final int MOST_CALLS = 512;
    private static final int MOST_POINTS = 120;

    private static final int NOTHING = 0;
    private static final int BORROW = 1;
    private static final int COPY = 2;
    private static final int END = 3;
    private static final int USE = 4;
    private static final int LOOK = 5;
    private static final int CHANGE = 6;

    /** Far outside of all that is asked for, and what would fall inside if a number wrapped around. */
    private static final int[] FAR = {LEAST, LEAST + 1, LEAST + 15, LEAST + 119, -65535, -32768, -256, -255, -128, -120,
        121, 127, 128, 255, 256, 257, 65536, 65537, 1 << 30, MOST - 1, MOST};

    private static String sentence = "";
    private static int wrong = 0;

    private static void sentence(String text) {
        sentence = text;
    }

    private static void due(String what, int got, int want) {
        if (got != want) {
            tell(what + " answered " + got + ", due is " + want);
        }
    }

    private static void due(String what, boolean got, boolean want) {
        due(what, got ? 1 : 0, want ? 1 : 0);
    }

    private static void dueSame(String what, String got, String want) {
        if (!got.equals(want)) {
            tell(what + ": the answers are" + System.lineSeparator() + "  " + got + ", due are" + System.lineSeparator() + "  " + want);
        }
    }

    private static void tell(String fault) {
        wrong++;
        if (wrong <= 40) {
            System.out.println("\"" + sentence + "\": " + fault);
        }
    }

    /** An object that is used for 512 calls at most, since what later calls answer is free. */
    private static final class Desk {
        final LoanDesk desk = new LoanDesk();
        final List<int[]> told = new ArrayList<>();
        int size = 0;
        int calls = 0;

        private LoanDesk called() {
            calls++;
            if (calls == MOST_CALLS + 1) {
                tell("the test itself makes more than 512 calls of one object");
            }
            return desk;
        }

        /** A new object that has been told the same, refused calls too. */
        Desk again() {
            Desk other = new Desk();
            for (int[] row : told) {
                if (row.length == 4) {
                    other.point(row[0], row[1], row[2], row[3]);
                } else if (row.length == 3) {
                    other.next(row[0], row[1], row[2]);
                } else {
                    other.clear();
                }
            }
            return other;
        }

        int point(int doing, int a, int b, int c) {
            told.add(new int[] {doing, a, b, c});
            int number = called().point(doing, a, b, c);
            size = number == -1 ? size : size + 1;
            return number;
        }

        boolean next(int point, int x, int y) {
            told.add(new int[] {point, x, y});
            return called().next(point, x, y);
        }

        int clear() {
            told.add(new int[0]);
            size = 0;
            return called().clear();
        }

        boolean isReached(int point) {
            return called().isReached(point);
        }

        int holders(int point, int loan) {
            return called().holders(point, loan);
        }

        int used(int point) {
            return called().used(point);
        }

        boolean isAlive(int point, int loan) {
            return called().isAlive(point, loan);
        }

        int met(int point, int after) {
            return called().met(point, after);
        }

        int count(int what) {
            return called().count(what);
        }

        private Desk with(int doing, int a, int b, int c) {
            int number = size;
            due("point(" + doing + ", " + a + ", " + b + ", " + c + ")", point(doing, a, b, c), number);
            return this;
        }

        Desk nothing() {
            return with(NOTHING, 0, 0, 0);
        }

        Desk nothings(int upTo) {
            while (size < upTo) {
                int before = size;
                nothing();
                if (size == before) {
                    return this;
                }
            }
            return this;
        }

        Desk borrow(int reference, int place, int toChange) {
            return with(BORROW, reference, place, toChange);
        }

        Desk copy(int to, int from) {
            return with(COPY, to, from, 0);
        }

        Desk end(int reference) {
            return with(END, reference, 0, 0);
        }

        Desk use(int reference) {
            return with(USE, reference, 0, 0);
        }

        Desk look(int place) {
            return with(LOOK, 0, place, 0);
        }

        Desk change(int place) {
            return with(CHANGE, 0, place, 0);
        }

        Desk goes(int point, int x, int y) {
            due("next(" + point + ", " + x + ", " + y + ")", next(point, x, y), true);
            return this;
        }
    }

    /** What an object answers to all questions; once its calls are used up, a new one that was told the same is asked. */
    private static String answers(Desk desk) {
        StringBuilder all = new StringBuilder();
        Desk asked = desk;
        for (int what = 0; what <= 4; what++) {
            asked = fresh(asked, 1);
            all.append(asked.count(what)).append(' ');
        }
        for (int point = 0; point < desk.size; point++) {
            asked = fresh(asked, 2);
            all.append("| ").append(asked.isReached(point) ? 1 : 0).append(' ').append(asked.used(point)).append(' ');
            for (int loan = 0; loan < desk.size; loan++) {
                asked = fresh(asked, 3);
                int holders = asked.holders(point, loan);
                boolean alive = asked.isAlive(point, loan);
                boolean met = asked.met(point, loan - 1) == loan;
                all.append(holders == 0 && !alive && !met ? "" : loan + ":" + holders + (alive ? "a" : "") + (met ? "m" : "") + " ");
            }
        }
        return all.toString();
    }

    private static Desk fresh(Desk desk, int calls) {
        return desk.calls + calls <= MOST_CALLS ? desk : desk.again();
    }

    /** What no point of an object has for its number. */
    private static List<Integer> noPoints(int size) {
        List<Integer> found = new ArrayList<>();
        for (int number : FAR) {
            found.add(number);
        }
        found.add(-2);
        found.add(-1);
        found.add(size);
        found.add(119 < size ? 120 : 119);
        found.add(120);
        return found;
    }

    private static void dueNoPoint(String which, Desk desk, int point) {
        due(which + ": isReached(" + point + ")", desk.isReached(point), false);
        due(which + ": used(" + point + ")", desk.used(point), 0);
        due(which + ": holders(" + point + ", 0)", desk.holders(point, 0), 0);
        due(which + ": holders(0, " + point + ")", desk.holders(0, point), 0);
        due(which + ": isAlive(" + point + ", 0)", desk.isAlive(point, 0), false);
        due(which + ": isAlive(0, " + point + ")", desk.isAlive(0, point), false);
        due(which + ": met(" + point + ", -1)", desk.met(point, -1), -1);
        due(which + ": met(" + point + ", least)", desk.met(point, LEAST), -1);
        due(which + ": next(" + point + ", 0, 0)", desk.next(point, 0, 0), false);
    }

    private static void dueEmpty(String which, Desk desk) {
        due(which + ": count(0)", desk.count(0), 0);
        due(which + ": count(1)", desk.count(1), 0);
        due(which + ": count(2)", desk.count(2), 0);
        due(which + ": count(3)", desk.count(3), -1);
        due(which + ": count(4)", desk.count(4), 0);
        dueNoPoint(which, desk, 0);
        for (int point : noPoints(0)) {
            dueNoPoint(which, desk, point);
        }
    }

    // ---- What it is

    private static void callsOfOneObject() {
        sentence("An object is used for at most 512 calls after it has been made");
        Desk turns = new Desk().borrow(0, 1, 0).change(1).use(0);
        for (int round = 0; round < 127; round++) {
            due("past the change", turns.next(0, 2, -1), true);
            due("met past the change", turns.met(1, -1), -1);
            due("by the change", turns.next(0, 1, -1), true);
            due("met by the change", turns.met(1, -1), 0);
        }
        due("the 512th call", turns.count(3), 1);
        due("calls", turns.calls, MOST_CALLS);
        Desk points = new Desk();
        for (int call = 0; call < MOST_CALLS; call++) {
            due("call " + call, points.point(USE, call % 16, 0, 0), call < MOST_POINTS ? call : -1);
        }
        Desk clears = new Desk();
        for (int call = 0; call < MOST_CALLS; call += 2) {
            due("the only point", clears.point(NOTHING, 0, 0, 0), 0);
            due("clear", clears.clear(), 1);
        }
    }

    /** The dearest graph: all 120 points, 16 references handed round in loops, told anew ahead of each question. */
    private static void dearestCallsOfOneObject() {
        sentence("An object is used for at most 512 calls after it has been made");
        Desk desk = new Desk();
        for (int i = 0; i < MOST_POINTS; i++) {
            if (i % 2 == 0) {
                desk.borrow(i / 2 % 16, 1, 1);
            } else {
                desk.copy((i / 2 + 1) % 16, i / 2 % 16);
            }
        }
        for (int i = 0; i < 130; i++) {
            desk.goes(i % MOST_POINTS, (i * 7 + 1) % MOST_POINTS, (i * 11 + 5) % MOST_POINTS);
            int meeting = desk.count(2);
            due("those that meet and the first of them", desk.count(3) >= 0, meeting > 0);
        }
        Desk unasked = desk.again();
        due("meeting, as one that was not asked before", desk.count(2), unasked.count(2));
        due("reached, as one that was not asked before", desk.count(1), unasked.count(1));
    }

    // ---- Terms

    private static void pointsOfTerms() {
        sentence("There are POINTS 0, 1, .. (at most 120)");
        for (int doing = NOTHING; doing <= CHANGE; doing++) {
            Desk desk = new Desk();
            for (int i = 0; i < MOST_POINTS; i++) {
                due("point " + i + " of doing " + doing, desk.point(doing, 1, 1, 1), i);
            }
            due("point 120 of doing " + doing, desk.point(doing, 1, 1, 1), -1);
            due("points", desk.count(0), MOST_POINTS);
            due("the last is one", desk.isReached(119), true);
            due("one more is none", desk.isReached(120), false);
        }
    }

    private static void nextsOfTerms() {
        sentence("each with one DOING and up to two points that can come next");
        int[][] nexts = {{-1, -1}, {1, -1}, {-1, 1}, {1, 1}, {1, 2}, {2, 1}, {0, -1}, {-1, 0}, {0, 0}, {0, 2}, {2, 0}};
        for (int[] pair : nexts) {
            Desk desk = new Desk().nothing().use(1).use(2).goes(1, -1, -1).goes(2, -1, -1).goes(0, pair[0], pair[1]);
            boolean one = pair[0] == 1 || pair[1] == 1;
            boolean two = pair[0] == 2 || pair[1] == 2;
            String which = " with " + pair[0] + " and " + pair[1];
            due("1 is reached" + which, desk.isReached(1), one);
            due("2 is reached" + which, desk.isReached(2), two);
            due("used(0)" + which, desk.used(0), (one ? 2 : 0) + (two ? 4 : 0));
            due("count(1)" + which, desk.count(1), 1 + (one ? 1 : 0) + (two ? 1 : 0));
        }
    }

    private static void waysOfTerms() {
        sentence("A WAY goes from point 0 on, from each point to one that can come next.");
        Desk alone = new Desk().nothing().goes(0, -1, -1);
        due("0 needs no point ahead of it", alone.isReached(0), true);
        due("only 0", alone.count(1), 1);
        Desk island = new Desk().nothing().nothing().nothing().nothing().goes(0, -1, -1).goes(3, 1, 0);
        due("a loop that 0 does not come to: 1", island.isReached(1), false);
        due("a loop that 0 does not come to: 3, though it goes to 0", island.isReached(3), false);
        Desk back = new Desk().nothings(MOST_POINTS).goes(0, 119, -1);
        for (int i = 1; i < MOST_POINTS; i++) {
            back.goes(i, i - 1, -1);
        }
        due("all by one way down", back.count(1), MOST_POINTS);
        due("cut in its midst", back.next(60, -1, -1), true);
        due("reached behind the cut", back.count(1), 61);
        due("60 is still reached", back.isReached(60), true);
        due("59 is not", back.isReached(59), false);
    }

    private static void referencesOfTerms() {
        sentence("There are REFERENCES 0 .. 15, which hold nothing ahead of point 0.");
        for (int reference = 0; reference <= 15; reference++) {
            Desk desk = new Desk().borrow(reference, 1, 1).look(1).copy((reference + 1) % 16, reference).use((reference + 1) % 16);
            due("holders of " + reference, desk.holders(0, 0), 1 << reference);
            due("used of " + reference, desk.used(0), 1 << reference);
            due("copied from " + reference, desk.holders(2, 0), 1 << reference | 1 << (reference + 1) % 16);
            due("used behind the copy of " + reference, desk.used(2), 1 << (reference + 1) % 16);
            due("met by " + reference, desk.met(1, -1), 0);
        }
        Desk empty = new Desk().copy(1, 0).use(0).use(1).borrow(2, 1, 1);
        for (int point = 0; point < 3; point++) {
            due("none holds a loan ahead of its point", empty.holders(point, 3), 0);
        }
        Desk loop = new Desk().copy(1, 0).borrow(0, 1, 1).goes(1, 0, -1);
        due("come back to 0, they hold what they held", loop.holders(0, 1), 3);
    }

    private static boolean isPlace(int number) {
        return ("" + number).matches("[1-9]{1,4}");
    }

    private static void placesOfTerms() {
        sentence("PLACES are numbers: a variable 1 .. 9, then up to three steps 1 .. 9, as digits: 4, 47, 471, .. 9999 (no 0).");
        int[] doings = {BORROW, LOOK, CHANGE};
        for (int doing : doings) {
            LoanDesk desk = new LoanDesk();
            for (int place = -1200; place <= 120000; place++) {
                desk = place % 100 == 0 ? new LoanDesk() : desk;
                due("place " + place + " of doing " + doing, desk.point(doing, 0, place, 0) >= 0, isPlace(place));
            }
            Desk far = new Desk();
            int[] wrongPlaces = {LEAST, LEAST + 1, MOST, MOST - 1, 1111111111, 111111111, 11111111, 1111111, 111111, 11111, 65537 + 46, -1, -9999, 99999};
            for (int place : wrongPlaces) {
                due("place " + place + " of doing " + doing, far.point(doing, 0, place, 0), -1);
            }
        }
    }

    private static int[] placesOf(int digit, int other) {
        int[] places = new int[30];
        places[0] = digit;
        places[1] = other;
        int filled = 2;
        for (int i = 0; filled < places.length; i++) {
            places[filled] = places[i] * 10 + digit;
            places[filled + 1] = places[i] * 10 + other;
            filled += 2;
        }
        return places;
    }

    private static void overlapsOfTerms() {
        sentence("Two places OVERLAP if one is the other, or begins with it.");
        int[][] digits = {{1, 2}, {1, 9}, {8, 9}};
        for (int[] pair : digits) {
            int[] places = placesOf(pair[0], pair[1]);
            for (int lent : places) {
                Desk desk = new Desk().borrow(0, lent, 0);
                for (int place : places) {
                    desk.change(place);
                }
                desk.use(0);
                for (int i = 0; i < places.length; i++) {
                    boolean overlap = ("" + lent).startsWith("" + places[i]) || ("" + places[i]).startsWith("" + lent);
                    due("a change of " + places[i] + " with a loan of " + lent, desk.met(i + 1, -1), overlap ? 0 : -1);
                }
            }
        }
    }

    private static void borrowOfTerms() {
        sentence("BORROW: reference a holds a new LOAN of place b alone, to be changed if c is 1 (0: shared); the loan's number is the point's.");
        Desk desk = new Desk().borrow(0, 1, 1).borrow(0, 2, 0).look(11).look(21).change(12).change(22).use(0);
        due("the first is held", desk.holders(0, 0), 1);
        due("the new one alone: the first no more", desk.holders(1, 0), 0);
        due("the new one by its point's number", desk.holders(1, 1), 1);
        due("the first is not looked at", desk.met(2, -1), -1);
        due("a shared one may be looked at", desk.met(3, -1), -1);
        due("the first is not changed", desk.met(4, -1), -1);
        due("a shared one is met by a change", desk.met(5, -1), 1);
        Desk last = new Desk().nothings(119).borrow(15, 9999, 1).goes(0, 119, -1).goes(119, 1, -1);
        due("the loan of the last point", last.holders(119, 119), 1 << 15);
        due("the loan of the last point goes on", last.holders(1, 119), 1 << 15);
        due("and so to the end", last.holders(118, 119), 1 << 15);
        due("not ahead of it", last.holders(0, 119), 0);
        Desk others = new Desk().borrow(0, 1, 1).copy(1, 0).borrow(0, 2, 0);
        due("another one keeps the loan", others.holders(2, 0), 2);
    }

    private static void copyOfTerms() {
        sentence("COPY: reference a holds what b holds (now), alone.");
        Desk now = new Desk().borrow(0, 1, 0).copy(1, 0).borrow(0, 2, 0);
        due("what b holds later is not a's", now.holders(2, 2), 1);
        due("what b held is still a's", now.holders(2, 0), 2);
        Desk alone = new Desk().borrow(0, 1, 0).borrow(1, 2, 0).copy(1, 0);
        due("a no more holds what it held", alone.holders(2, 1), 0);
        due("a holds what b holds", alone.holders(2, 0), 3);
        Desk none = new Desk().borrow(1, 2, 0).copy(1, 0);
        due("of one that holds nothing", none.holders(1, 0), 0);
        Desk itself = new Desk().borrow(1, 2, 0).copy(1, 1);
        due("of itself", itself.holders(1, 0), 2);
        Desk nothingToItself = new Desk().borrow(1, 2, 0).copy(2, 2);
        due("of another one to itself", nothingToItself.holders(1, 0), 2);
        Desk several = new Desk().nothing().borrow(0, 1, 0).borrow(0, 2, 0).copy(1, 0).goes(0, 1, 2).goes(1, 3, -1);
        due("all that b may hold: by x", several.holders(3, 1), 3);
        due("all that b may hold: by y", several.holders(3, 2), 3);
    }

    private static void endOfTerms() {
        sentence("END: reference a holds nothing.");
        Desk desk = new Desk().borrow(0, 1, 0).copy(1, 0).end(0).end(0).end(1).end(7);
        int[] holders = {1, 3, 2, 2, 0, 0};
        for (int point = 0; point < holders.length; point++) {
            due("holders(" + point + ", 0)", desk.holders(point, 0), holders[point]);
        }
        Desk several = new Desk().nothing().borrow(0, 1, 0).borrow(0, 2, 0).end(0).goes(0, 1, 2).goes(1, 3, -1);
        due("of all that it may hold: by x", several.holders(3, 1), 0);
        due("of all that it may hold: by y", several.holders(3, 2), 0);
    }

    private static void doingsThatChangeNothing() {
        sentence("0 nothing. 4 USE: reference a is used. 5 LOOK at place b. 6 CHANGE place b.");
        Desk desk = new Desk().borrow(0, 1, 0).nothing().use(0).look(1).change(1).nothing();
        for (int point = 0; point < 6; point++) {
            due("holders(" + point + ", 0)", desk.holders(point, 0), 1);
        }
        due("used ahead of the use", desk.used(0), 1);
        due("used up to the use", desk.used(1), 1);
        due("not behind it", desk.used(2), 0);
    }

    private static void copyUses() {
        sentence("A COPY uses b as well.");
        Desk desk = new Desk().borrow(0, 1, 1).look(1).copy(1, 0);
        due("b is used", desk.used(0), 1);
        due("b is used up to it", desk.used(1), 1);
        due("behind it no more", desk.used(2), 0);
        due("so its loan is alive", desk.isAlive(1, 0), true);
        due("and met", desk.met(1, -1), 0);
        Desk itself = new Desk().nothing().copy(3, 3);
        due("of itself", itself.used(0), 8);
    }

    private static void borrowLooks() {
        sentence("BORROW is a look at its place too, or (with c 1) a change.");
        for (int lent = 0; lent <= 1; lent++) {
            for (int now = 0; now <= 1; now++) {
                Desk desk = new Desk().borrow(0, 12, lent).borrow(1, 1, now).borrow(2, 2, now).use(0);
                due("a borrow " + now + " over a loan " + lent, desk.met(1, -1), lent == 1 || now == 1 ? 0 : -1);
                due("a borrow " + now + " elsewhere than a loan " + lent, desk.met(2, -1), -1);
            }
        }
    }

    private static void heldBySomeWay() {
        sentence("A reference holds a loan BEHIND a point if by some way it does.");
        Desk fork = new Desk().borrow(0, 1, 0).end(0).nothing().nothing().goes(0, 1, 2).goes(1, 3, -1);
        due("by the way past the end", fork.holders(3, 0), 1);
        due("not on the way of the end", fork.holders(1, 0), 0);
        fork.goes(0, 1, -1);
        due("by no way any more", fork.holders(3, 0), 0);
        Desk many = new Desk();
        for (int i = 0; i < 16; i++) {
            many.borrow(0, 1, 0);
        }
        for (int i = 0; i < 15; i++) {
            many.nothing();
        }
        // Point i of the first sixteen goes to the next borrow or out to the row behind.
        for (int i = 0; i < 15; i++) {
            many.goes(i, i + 1, 16 + i);
        }
        many.goes(15, 16, -1);
        for (int loan = 0; loan < 16; loan++) {
            due("one of sixteen ways", many.holders(30, loan), 1);
            due("not ahead of it", loan == 0 ? 0 : many.holders(loan - 1, loan), 0);
        }
    }

    private static void usedLater() {
        sentence("It is USED LATER behind a point if by some way from there (behind the point) it is used, ahead of any BORROW, COPY to it, or END.");
        due("a use at the point itself is not behind it", new Desk().use(0).used(0), 0);
        due("but by a loop it is", new Desk().use(0).goes(0, 0, -1).used(0), 1);
        due("a use next to it", new Desk().nothing().use(0).used(0), 1);
        due("ahead of a BORROW", new Desk().nothing().use(0).borrow(0, 1, 0).used(0), 1);
        due("behind a BORROW", new Desk().nothing().borrow(0, 1, 0).use(0).used(0), 0);
        due("ahead of a COPY to it", new Desk().nothing().use(0).copy(0, 1).used(0), 3);
        due("behind a COPY to it", new Desk().nothing().copy(0, 1).use(0).used(0), 2);
        due("behind a COPY from it", new Desk().nothing().copy(1, 0).use(0).used(0), 1);
        due("ahead of an END", new Desk().nothing().use(0).end(0).used(0), 1);
        due("behind an END", new Desk().nothing().end(0).use(0).used(0), 0);
        due("behind a BORROW to another one", new Desk().nothing().borrow(1, 1, 0).use(0).used(0), 1);
        due("behind an END of another one", new Desk().nothing().end(1).use(0).used(0), 1);
        due("behind its own BORROW", new Desk().borrow(0, 1, 0).use(0).used(0), 1);
        due("behind its own END", new Desk().end(0).use(0).used(0), 1);
        due("behind its own COPY", new Desk().copy(0, 1).use(0).used(0), 1);
        due("by one of two ways", new Desk().nothing().end(0).use(0).goes(0, 1, 2).used(0), 1);
        due("by x", new Desk().nothing().nothing().use(0).goes(0, 2, -1).used(0), 1);
        due("by y", new Desk().nothing().nothing().use(0).goes(0, -1, 2).used(0), 1);
        Desk far = new Desk().use(15).nothings(MOST_POINTS).goes(119, 0, -1);
        due("by a way of 119 points and back", far.used(0), 1 << 15);
        due("by the last", far.used(119), 1 << 15);
        Desk down = new Desk().use(3).nothings(MOST_POINTS);
        for (int i = 1; i < MOST_POINTS; i++) {
            down.goes(i, i - 1, -1);
        }
        due("by a way down in number", down.used(119), 8);
        Desk all = new Desk().nothing();
        for (int i = 0; i < 16; i++) {
            all.use(i);
        }
        for (int i = 0; i <= 16; i++) {
            due("all sixteen but those passed", all.used(i), 0xFFFF >> i << i);
        }
    }

    private static void alive() {
        sentence("A loan is ALIVE behind a point if some reference holds it behind that and is used later.");
        due("held and used", new Desk().borrow(0, 1, 0).use(0).isAlive(0, 0), true);
        due("held, not used", new Desk().borrow(0, 1, 0).nothing().isAlive(0, 0), false);
        due("used, not held", new Desk().borrow(0, 1, 0).end(0).use(0).isAlive(1, 0), false);
        due("one holds it, another is used", new Desk().borrow(0, 1, 0).use(1).isAlive(0, 0), false);
        due("the last of its holders is used", new Desk().borrow(0, 1, 0).copy(15, 0).use(15).isAlive(1, 0), true);
        due("at its last use no more", new Desk().borrow(0, 1, 0).use(0).isAlive(1, 0), false);
        due("a point that is no BORROW", new Desk().use(0).use(0).isAlive(0, 0), false);
    }

    private static void waysCountTogether() {
        sentence("(Ways to a point and from it may be any: what holds by one and what is used by another one count together. Points that no way comes to hold nothing.)");
        Desk desk = new Desk().nothing().borrow(0, 1, 1).borrow(1, 1, 1).look(1).use(0).use(1)
            .goes(0, 1, 2).goes(1, 3, -1).goes(3, 4, 5).goes(4, -1, -1);
        due("held by the one way, used by the one", desk.isAlive(3, 1), true);
        due("held by the other way, used by the other", desk.isAlive(3, 2), true);
        due("the look meets the one", desk.met(3, -1), 1);
        due("and the other", desk.met(3, 1), 2);
        due("not behind where it is used no more", desk.isAlive(5, 1), false);
        Desk cut = new Desk().nothing().borrow(0, 1, 1).look(1).use(0).goes(0, -1, -1);
        for (int point = 0; point < 4; point++) {
            due("held where no way comes to: " + point, cut.holders(point, 1), 0);
            due("alive where no way comes to: " + point, cut.isAlive(point, 1), false);
            due("met where no way comes to: " + point, cut.met(point, -1), -1);
        }
        Desk aside = new Desk().borrow(0, 1, 1).look(1).use(0).goes(0, 2, -1);
        due("a loan that is held elsewhere", aside.holders(1, 0), 0);
        due("is not alive where no way comes to", aside.isAlive(1, 0), false);
        // Point 1 leads into what is reached, but no way comes to it with its loan.
        Desk into = new Desk().nothing().borrow(0, 1, 1).look(1).use(0).goes(0, 2, -1);
        due("nor does it go on from there", into.holders(2, 1), 0);
    }

    private static void meets() {
        sentence("A point MEETS a loan that is alive behind it, whose place and its own overlap: a CHANGE all such, a LOOK those that are to be changed");
        for (int toChange = 0; toChange <= 1; toChange++) {
            due("a CHANGE", new Desk().borrow(0, 1, toChange).change(1).use(0).met(1, -1), 0);
            due("a LOOK", new Desk().borrow(0, 1, toChange).look(1).use(0).met(1, -1), toChange == 1 ? 0 : -1);
            due("a CHANGE elsewhere", new Desk().borrow(0, 1, toChange).change(2).use(0).met(1, -1), -1);
            due("a LOOK elsewhere", new Desk().borrow(0, 1, toChange).look(2).use(0).met(1, -1), -1);
            due("a CHANGE, not alive", new Desk().borrow(0, 1, toChange).change(1).end(0).use(0).met(1, -1), -1);
            due("a LOOK, not alive", new Desk().borrow(0, 1, toChange).look(1).end(0).use(0).met(1, -1), -1);
            due("nothing", new Desk().borrow(0, 1, toChange).nothing().use(0).met(1, -1), -1);
            due("a USE", new Desk().borrow(0, 1, toChange).use(1).use(0).met(1, -1), -1);
            due("a COPY", new Desk().borrow(0, 1, toChange).copy(1, 0).use(0).met(1, -1), -1);
            due("an END", new Desk().borrow(0, 1, toChange).end(1).use(0).met(1, -1), -1);
        }
        Desk both = new Desk().borrow(0, 1, 0).borrow(1, 1, 1).look(1).change(1).use(0).use(1);
        due("a LOOK passes by what is shared", both.met(2, -1), 1);
        due("a CHANGE does not", both.met(3, -1), 0);
        due("and meets the other as well", both.met(3, 0), 1);
    }

    private static void borrowMeets() {
        sentence("but a BORROW not what only its own reference holds (among those that are used later)");
        for (int toChange = 0; toChange <= 1; toChange++) {
            int own = toChange == 1 ? 0 : -1;
            due("only its own, used later", new Desk().borrow(0, 1, toChange).use(0).goes(1, 0, -1).met(0, -1), -1);
            due("its own and another, both used later",
                new Desk().borrow(0, 1, toChange).use(0).use(1).copy(1, 0).goes(3, 0, -1).met(0, -1), own);
            due("another one, used later, its own not",
                new Desk().borrow(0, 1, toChange).use(1).copy(1, 0).goes(2, 0, -1).met(0, -1), own);
            due("another one, not used later",
                new Desk().borrow(0, 1, toChange).copy(1, 0).use(0).end(1).goes(3, 0, -1).met(0, -1), -1);
            due("another one that is told anew ahead of its use",
                new Desk().borrow(0, 1, toChange).use(0).copy(1, 0).use(1).goes(3, 0, -1).met(0, -1), -1);
            due("an older loan of its own reference", new Desk().borrow(0, 1, 1).borrow(0, 1, toChange).use(0).met(1, -1), -1);
            due("an older loan that another one holds too",
                new Desk().borrow(0, 1, 1).copy(1, 0).borrow(0, 1, toChange).use(0).use(1).met(2, -1), 0);
        }
        Desk alive = new Desk().borrow(0, 1, 1).use(0).goes(1, 0, -1);
        due("such a loan is alive all the same", alive.isAlive(0, 0), true);
        due("and no point meets", alive.count(2), 0);
        due("none is first", alive.count(3), -1);
    }

    private static void memory() {
        sentence("All memory is the class's own.");
        Desk one = new Desk();
        Desk other = new Desk();
        for (int i = 0; i < 40; i++) {
            due("point of one", one.point(i == 0 ? BORROW : CHANGE, 0, 1, 0), i);
            due("point of the other", other.point(USE, i % 16, 0, 0), i);
        }
        one.use(0);
        due("one's last change meets", one.met(39, -1), 0);
        due("the other's none", other.met(39, -1), -1);
        due("one's used", one.used(0), 1);
        due("the other's used", other.used(0), 0xFFFF);
        due("one tells next", one.next(0, -1, -1), true);
        due("the other's ways stay", other.count(1), 40);
        due("one clears", one.clear(), 41);
        due("the other's points stay", other.count(0), 40);
    }

    /** A graph in which each part of a call that ought to be refused would show. */
    private static Desk graphForRefusals() {
        return new Desk().borrow(0, 1, 1).look(11).copy(1, 0).change(12).end(0).use(1).goes(0, 1, 2).goes(3, 5, -1).goes(5, -1, -1);
    }

    private static final int[][] REFUSED_POINTS = {
        {-1, 0, 1, 0}, {7, 0, 1, 0}, {LEAST, 0, 1, 0}, {MOST, 0, 1, 0},
        {BORROW, -1, 1, 0}, {BORROW, 16, 1, 0}, {BORROW, 0, 0, 0}, {BORROW, 0, 10, 0}, {BORROW, 0, 11111, 0},
        {BORROW, 0, 1, -1}, {BORROW, 0, 1, 2}, {BORROW, 16, 0, 2},
        {COPY, -1, 1, 0}, {COPY, 16, 1, 0}, {COPY, 1, -1, 0}, {COPY, 1, 16, 0}, {COPY, 16, 16, 0},
        {END, -1, 0, 0}, {END, 16, 0, 0}, {USE, -1, 0, 0}, {USE, 16, 0, 0},
        {LOOK, 0, 0, 0}, {LOOK, 0, -1, 0}, {LOOK, 0, 10000, 0}, {CHANGE, 0, 0, 0}, {CHANGE, 0, -1, 0}, {CHANGE, 0, 10000, 0},
    };

    private static final int[][] REFUSED_NEXTS = {
        {-1, 0, 0}, {6, 0, 0}, {119, 0, 0}, {120, 0, 0}, {LEAST, 0, 0}, {MOST, 0, 0},
        {0, -2, 3}, {0, 120, 3}, {0, LEAST, 3}, {0, MOST, 3}, {0, 3, -2}, {0, 3, 120}, {0, 3, LEAST}, {0, 3, MOST},
        {0, -2, -2}, {0, 120, 120}, {5, 0, 120}, {5, 120, 0}, {5, -2, 0}, {5, 0, -2}, {6, -2, 120},
    };

    private static String told(int[] row) {
        StringBuilder text = new StringBuilder(row.length == 4 ? "point(" : "next(");
        for (int i = 0; i < row.length; i++) {
            text.append(i == 0 ? "" : ", ").append(row[i]);
        }
        return text.append(')').toString();
    }

    private static void refuse(Desk desk, int[] row) {
        if (row.length == 4) {
            due(told(row), desk.point(row[0], row[1], row[2], row[3]), -1);
        } else {
            due(told(row), desk.next(row[0], row[1], row[2]), false);
        }
    }

    private static void refusedChangesNothing() {
        sentence("A call that is refused changes nothing.");
        String before = answers(graphForRefusals());
        List<int[]> all = new ArrayList<>(List.of(REFUSED_POINTS));
        all.addAll(List.of(REFUSED_NEXTS));
        for (int[] row : all) {
            Desk unasked = graphForRefusals();
            refuse(unasked, row);
            dueSame("behind " + told(row), answers(unasked), before);
            Desk asked = graphForRefusals();
            dueSame("ahead of " + told(row), answers(asked), before);
            refuse(asked, row);
            dueSame("asked again behind " + told(row), answers(asked), before);
            asked = graphForRefusals();
            refuse(asked, row);
            due("the next point behind " + told(row), asked.point(NOTHING, 0, 0, 0), 6);
        }
    }

    // ---- Promises 1 and 2

    private static void newObject() {
        sentence("No points.");
        dueEmpty("a new object", new Desk());
        due("clear of a new object", new Desk().clear(), 0);
        due("its first point", new Desk().point(NOTHING, 0, 0, 0), 0);
    }

    private static void pointNumber() {
        sentence("One more point, the next in number: its number");
        Desk desk = new Desk();
        for (int i = 0; i < MOST_POINTS; i++) {
            due("a point", desk.point(i % 7, i % 16, 1 + i % 9, i % 2), i);
            due("a refused one takes no number", desk.point(7, 0, 0, 0), -1);
            due("points", desk.count(0), i + 1);
        }
    }

    private static void noSuchDoing() {
        sentence("-1, refused, if there is no such doing");
        for (int doing = -300; doing <= 300; doing++) {
            Desk desk = new Desk();
            boolean isOne = doing >= 0 && doing <= 6;
            due("doing " + doing, desk.point(doing, 1, 1, 1), isOne ? 0 : -1);
            due("points behind doing " + doing, desk.count(0), isOne ? 1 : 0);
        }
        for (int doing : FAR) {
            due("doing " + doing, new Desk().point(doing, 1, 1, 1), -1);
        }
    }

    private static int pointWithA(int doing, int a) {
        return new Desk().point(doing, a, 1, 1);
    }

    private static void noSuchReference() {
        sentence("-1, refused, if there is no such reference (a of 1 to 4, b of 2 in 0 .. 15)");
        for (int reference = -300; reference <= 300; reference++) {
            int number = reference >= 0 && reference <= 15 ? 0 : -1;
            for (int doing = BORROW; doing <= USE; doing++) {
                due("a " + reference + " of doing " + doing, pointWithA(doing, reference), number);
            }
            due("b " + reference + " of a COPY", new Desk().point(COPY, 1, reference, 1), number);
        }
        for (int reference : FAR) {
            for (int doing = BORROW; doing <= USE; doing++) {
                due("a " + reference + " of doing " + doing, pointWithA(doing, reference), -1);
            }
            due("b " + reference + " of a COPY", new Desk().point(COPY, 1, reference, 1), -1);
        }
    }

    private static void noSuchPlace() {
        sentence("-1, refused, if there is no such place (b of 1, 5, 6)");
        int[] doings = {BORROW, LOOK, CHANGE};
        int[] good = {1, 9, 11, 19, 91, 99, 111, 199, 911, 999, 1111, 1999, 9111, 9999};
        int[] bad = {0, -1, -9, -11, -9999, 10, 90, 100, 101, 109, 110, 190, 900, 909, 990, 1000, 1001, 1010, 1011, 1100, 1101, 1110,
            9990, 9909, 9099, 10000, 11111, 99999, 100000, 111111, LEAST, MOST};
        for (int doing : doings) {
            for (int place : good) {
                due("place " + place + " of doing " + doing, new Desk().point(doing, 0, place, 0), 0);
            }
            for (int place : bad) {
                due("place " + place + " of doing " + doing, new Desk().point(doing, 0, place, 0), -1);
            }
        }
    }

    private static void noSuchKind() {
        sentence("-1, refused, if there is no such c but 0 and 1 of a BORROW");
        for (int kind = -300; kind <= 300; kind++) {
            due("c " + kind, new Desk().point(BORROW, 0, 1, kind), kind == 0 || kind == 1 ? 0 : -1);
        }
        for (int kind : FAR) {
            due("c " + kind, new Desk().point(BORROW, 0, 1, kind), -1);
        }
    }

    private static Desk fullDesk() {
        return new Desk().borrow(0, 1, 1).look(1).copy(1, 0).nothings(117).change(11).borrow(2, 12, 0).use(1);
    }

    private static void noRoom() {
        sentence("-1, refused, if there is no room");
        String before = answers(fullDesk());
        Desk full = fullDesk();
        for (int doing = -1; doing <= 7; doing++) {
            due("doing " + doing + " of a full desk", full.point(doing, 1, 1, 1), -1);
        }
        due("points of a full desk", full.count(0), MOST_POINTS);
        dueSame("a full desk behind refused points", answers(full), before);
        due("next of the last", fullDesk().next(119, 0, 119), true);
        due("next of none", fullDesk().next(120, 0, 0), false);
        for (int point : noPoints(MOST_POINTS)) {
            dueNoPoint("a full desk", fullDesk(), point);
        }
        Desk almost = new Desk().nothings(119);
        due("refused at 119", almost.point(USE, 16, 0, 0), -1);
        due("the last has room", almost.point(USE, 15, 0, 0), 119);
        due("then no room", almost.point(USE, 15, 0, 0), -1);
        due("room again", almost.clear(), MOST_POINTS);
        due("from 0 on", almost.point(USE, 15, 0, 0), 0);
    }

    private static final int[] UNASKED = {LEAST, -65536, -2, -1, 1, 2, 9, 10, 15, 16, 32, 111, 120, 9999, 10000, MOST};

    /** The same graph, with what is not asked told as such a number. */
    private static Desk graphWithUnasked(int number) {
        Desk desk = new Desk().borrow(0, 1, 1).with(NOTHING, number, number, number).with(COPY, 1, 0, number)
            .with(LOOK, number, 11, number).with(END, 0, number, number).borrow(2, 9, 0).with(USE, 2, number, number)
            .with(CHANGE, number, 12, number).with(USE, 1, number, number);
        return desk;
    }

    private static void notAskedIsNotLookedAt() {
        sentence("What is not asked is not looked at.");
        String plain = answers(graphWithUnasked(0));
        for (int number : UNASKED) {
            dueSame("with " + number, answers(graphWithUnasked(number)), plain);
            int[][] rows = {
                {NOTHING, number, 0, 0}, {NOTHING, 0, number, 0}, {NOTHING, 0, 0, number}, {COPY, 0, 0, number},
                {END, 0, number, 0}, {END, 0, 0, number}, {USE, 0, number, 0}, {USE, 0, 0, number},
                {LOOK, number, 1, 0}, {LOOK, 0, 1, number}, {CHANGE, number, 1, 0}, {CHANGE, 0, 1, number},
            };
            for (int[] row : rows) {
                due(told(row), new Desk().point(row[0], row[1], row[2], row[3]), 0);
            }
        }
    }

    private static void nextTillNext() {
        sentence("Next to it can come the point behind it in number, and no other, till next().");
        Desk row = new Desk().nothings(MOST_POINTS - 1).use(7);
        for (int point = 0; point < MOST_POINTS; point++) {
            due("used(" + point + ")", row.used(point), point < 119 ? 1 << 7 : 0);
            due("isReached(" + point + ")", row.isReached(point), true);
        }
        Desk last = new Desk().use(0).nothings(MOST_POINTS);
        due("behind the last comes none, and not 0", last.used(119), 0);
        due("nor behind any", last.used(0), 0);
        Desk single = new Desk().use(0);
        due("next to the only one comes none", single.used(0), 0);
        single.use(1);
        due("then the one behind it", single.used(0), 2);
        single.use(2);
        due("and the next of that", single.used(0), 6);
        due("and no other", single.used(1), 4);
        Desk told = new Desk().nothing().nothing().use(2).goes(0, 0, -1);
        due("till next()", told.isReached(1), false);
        due("of that point alone", told.used(1), 4);
        Desk early = new Desk().nothing().goes(0, -1, -1).nothing().nothing();
        due("told ahead of the point behind it", early.isReached(1), false);
        due("which goes on as ever", early.next(0, 1, -1) && early.isReached(2), true);
    }

    // ---- Promises 3 to 10

    private static void toldAnew() {
        sentence("What can come next to a point is told anew: x and y (-1: none): true");
        Desk desk = new Desk().nothing().nothing().nothing().nothing().goes(1, -1, -1).goes(2, -1, -1).goes(3, -1, -1);
        int[][] nexts = {{1, 2}, {3, -1}, {-1, 2}, {-1, -1}, {2, 3}, {3, 3}, {1, 3}, {0, -1}, {119, 1}, {2, 119}, {0, 0}, {119, 119}};
        for (int[] pair : nexts) {
            desk.goes(0, pair[0], pair[1]);
            due("0 stays", desk.isReached(0), true);
            for (int point = 1; point <= 3; point++) {
                boolean comes = pair[0] == point || pair[1] == point;
                due(point + " with " + pair[0] + " and " + pair[1], desk.isReached(point), comes);
            }
        }
        Desk full = fullDesk();
        due("the last to itself and the first", full.next(119, 119, 0), true);
        due("its uses", full.used(119), 2);
        due("told none", full.next(119, -1, -1), true);
        due("none is used", full.used(119), 0);
    }

    private static void nextOfNoPoint() {
        sentence("false if it is no point");
        due("of an empty desk", new Desk().next(0, 0, 0), false);
        due("of an empty desk, none told", new Desk().next(0, -1, -1), false);
        for (int size = 1; size <= MOST_POINTS; size += 17) {
            Desk desk = new Desk().nothings(size);
            due("of the first", desk.next(0, 1, -1), true);
            due("of the last", desk.next(size - 1, -1, -1), true);
            for (int point : noPoints(size)) {
                due("next(" + point + ", -1, -1) of " + size, desk.next(point, -1, -1), false);
                due("next(" + point + ", 0, 0) of " + size, desk.next(point, 0, 0), false);
            }
            due("all stay reached", desk.count(1), size);
        }
        Desk early = new Desk().nothing();
        due("of a point to come", early.next(1, -1, -1), false);
        early.nothing().nothing();
        due("which then goes on all the same", early.isReached(2), true);
    }

    private static void nextOutOfBounds() {
        sentence("false if x or y below -1 or above 119");
        for (int number = -300; number <= 300; number++) {
            boolean good = number >= -1 && number <= 119;
            due("x " + number, new Desk().nothing().next(0, number, -1), good);
            due("y " + number, new Desk().nothing().next(0, -1, number), good);
            due("x and y " + number, new Desk().nothing().next(0, number, number), good);
        }
        for (int number : FAR) {
            due("x " + number, new Desk().nothing().next(0, number, -1), false);
            due("y " + number, new Desk().nothing().next(0, -1, number), false);
            due("x and y " + number, new Desk().nothing().next(0, number, number), false);
        }
    }

    private static void nextsNotThereYet() {
        sentence("(points that are not there yet may be told; as long as they are not, no way goes on there)");
        Desk desk = new Desk().borrow(0, 1, 1).goes(0, 2, 119);
        due("only 0 is reached", desk.count(1), 1);
        due("2 is not", desk.isReached(2), false);
        due("nothing is used", desk.used(0), 0);
        due("nothing is met", desk.count(2), 0);
        desk.use(5);
        due("1 is not told", desk.isReached(1), false);
        due("nor used", desk.used(0), 0);
        desk.look(12);
        due("2 is there", desk.isReached(2), true);
        due("it holds", desk.holders(2, 0), 1);
        due("not yet alive", desk.isAlive(2, 0), false);
        desk.use(0);
        due("alive now", desk.isAlive(2, 0), true);
        due("and met", desk.met(2, -1), 0);
        desk.nothings(119);
        due("119 is not there", desk.isReached(119), false);
        due("nor held", desk.holders(119, 0), 0);
        desk.goes(3, -1, -1).use(9);
        due("119 is there", desk.isReached(119), true);
        due("and used", desk.used(0), 1 << 9 | 1);
        due("118 is not reached", desk.isReached(118), false);
        Desk cleared = new Desk().nothing().nothing().use(3).goes(0, 2, -1);
        due("cleared", cleared.clear(), 3);
        cleared.nothing();
        due("what was there is not there any more", cleared.used(0), 0);
        due("nor reached", cleared.count(1), 1);
    }

    private static void isReached() {
        sentence("Whether a way comes to a point.");
        for (int size = 0; size <= MOST_POINTS; size += 20) {
            Desk desk = new Desk().nothings(size);
            for (int point = 0; point < size; point++) {
                due("isReached(" + point + ") of " + size, desk.isReached(point), true);
            }
            for (int point : noPoints(size)) {
                due("isReached(" + point + ") of " + size, desk.isReached(point), false);
            }
        }
    }

    private static void holders() {
        sentence("The references that hold a loan (by its point) behind a point, as bits.");
        Desk all = new Desk().borrow(15, 1, 0);
        for (int reference = 0; reference < 15; reference++) {
            all.copy(reference, 15);
        }
        for (int point = 0; point < 16; point++) {
            due("holders(" + point + ", 0)", all.holders(point, 0), (1 << point) - 1 | 1 << 15);
            due("a point that is no loan", all.holders(15, point), point == 0 ? 0xFFFF : 0);
        }
        for (int number : noPoints(16)) {
            due("holders(" + number + ", 0)", all.holders(number, 0), 0);
            due("holders(15, " + number + ")", all.holders(15, number), 0);
            due("holders(" + number + ", " + number + ")", all.holders(number, number), 0);
        }
        due("of an empty desk", new Desk().holders(0, 0), 0);
    }

    private static void holdersOfManyLoans() {
        sentence("The references that hold a loan (by its point) behind a point, as bits.");
        Desk desk = new Desk();
        for (int i = 0; i < MOST_POINTS; i++) {
            desk.borrow(i % 16, 1, 0);
        }
        for (int loan = 0; loan < MOST_POINTS; loan++) {
            due("at its point", desk.holders(loan, loan), 1 << loan % 16);
            due("at the last point", desk.holders(119, loan), loan < 104 ? 0 : 1 << loan % 16);
        }
    }

    private static void used() {
        sentence("The references that are used later behind a point, as bits; 0 for no point.");
        for (int size = 0; size <= MOST_POINTS; size += 30) {
            Desk desk = new Desk();
            for (int i = 0; i < size; i++) {
                desk.use(i % 16);
            }
            if (size > 0) {
                desk.goes(size - 1, 0, -1);
                due("used(0) of " + size, desk.used(0), 0xFFFF);
            }
            for (int point : noPoints(size)) {
                due("used(" + point + ") of " + size, desk.used(point), 0);
            }
        }
    }

    private static void isAlive() {
        sentence("Whether a loan (by its point) is alive behind a point.");
        Desk desk = new Desk().borrow(0, 1, 0).borrow(1, 2, 0).use(0).use(1);
        boolean[] first = {true, true, false, false};
        boolean[] second = {false, true, true, false};
        for (int point = 0; point < 4; point++) {
            due("isAlive(" + point + ", 0)", desk.isAlive(point, 0), first[point]);
            due("isAlive(" + point + ", 1)", desk.isAlive(point, 1), second[point]);
            due("isAlive(" + point + ", 2)", desk.isAlive(point, 2), false);
        }
        for (int number : noPoints(4)) {
            due("isAlive(" + number + ", 0)", desk.isAlive(number, 0), false);
            due("isAlive(1, " + number + ")", desk.isAlive(1, number), false);
        }
        due("of an empty desk", new Desk().isAlive(0, 0), false);
    }

    /** Loans at the edges of words and of the desk, all met by the change at 60: it goes to the uses, and to the later loans. */
    private static Desk deskOfEdges(int[] loans) {
        Desk desk = new Desk();
        int reference = 0;
        for (int i = 0; i < MOST_POINTS; i++) {
            if (reference < loans.length && i == loans[reference]) {
                desk.borrow(reference, 1, 0);
                reference++;
            } else if (i == 60) {
                desk.change(1);
            } else if (i >= 90 && i < 90 + loans.length) {
                desk.use(i - 90);
            } else {
                desk.nothing();
            }
        }
        return desk.goes(60, 61, 90).goes(119, 60, -1);
    }

    private static void metAbove() {
        sentence("The least loan above after that a point meets; -1 if there is none.");
        int[] loans = {0, 1, 31, 32, 59, 62, 63, 64, 65, 118, 119};
        Desk desk = deskOfEdges(loans);
        int least = 0;
        for (int after = -3; after <= 130; after++) {
            while (least < loans.length && loans[least] <= after) {
                least++;
            }
            due("met(60, " + after + ")", desk.met(60, after), least < loans.length ? loans[least] : -1);
        }
        for (int after : FAR) {
            due("met(60, " + after + ")", desk.met(60, after), after < 0 ? 0 : -1);
        }
        due("a point that meets none", desk.met(61, -1), -1);
        due("a point that meets none, above the least", desk.met(61, LEAST), -1);
    }

    private static void metOfNoPoint() {
        sentence("The least loan above after that a point meets; -1 if there is none.");
        Desk desk = new Desk().borrow(0, 1, 1).look(1).change(1).use(0);
        for (int point : noPoints(4)) {
            due("met(" + point + ", -1)", desk.met(point, -1), -1);
            due("met(" + point + ", least)", desk.met(point, LEAST), -1);
            due("met(" + point + ", most)", desk.met(point, MOST), -1);
        }
        due("of an empty desk", new Desk().met(0, -1), -1);
    }

    private static void metWhereAWayComes() {
        sentence("that a point meets (which a way comes to)");
        Desk desk = new Desk().borrow(0, 1, 1).look(1).use(0);
        due("a way comes", desk.met(1, -1), 0);
        desk.goes(0, 2, -1);
        due("no way comes to the look", desk.met(1, -1), -1);
        due("nor is it counted", desk.count(2), 0);
        due("nor the first", desk.count(3), -1);
        desk.goes(2, 1, -1).goes(1, 2, -1);
        due("a way comes from behind", desk.met(1, -1), 0);
        Desk loan = new Desk().nothing().borrow(0, 1, 1).look(1).use(0).goes(0, 2, -1);
        due("no way comes to the loan", loan.met(2, -1), -1);
        Desk island = new Desk().nothing().borrow(0, 1, 1).look(1).use(0).goes(0, -1, -1).goes(3, 1, -1);
        due("no way comes to the loop of both", island.met(2, -1), -1);
    }

    private static void counts() {
        sentence("0 how many points there are, 1 that a way comes to, 2 that meet a loan, 3 the first of these (-1: none), 4 loans");
        Desk none = new Desk();
        due("empty: 0", none.count(0), 0);
        due("empty: 1", none.count(1), 0);
        due("empty: 2", none.count(2), 0);
        due("empty: 3", none.count(3), -1);
        due("empty: 4", none.count(4), 0);
        Desk all = new Desk();
        for (int i = 0; i < MOST_POINTS; i += 2) {
            all.borrow(0, 1, 1).borrow(1, 1, 1);
        }
        due("full, none used: 2", all.count(2), 0);
        due("full, none used: 3", all.count(3), -1);
        due("full: 4", all.count(4), MOST_POINTS);
        due("full: 0", all.count(0), MOST_POINTS);
        due("full: 1", all.count(1), MOST_POINTS);
        Desk meeting = new Desk().borrow(0, 1, 1);
        for (int i = 1; i < 119; i++) {
            meeting.look(1);
        }
        meeting.use(0);
        due("all but the first and the last meet", meeting.count(2), 118);
        due("the first of these", meeting.count(3), 1);
        due("one loan", meeting.count(4), 1);
        meeting.goes(0, 118, -1);
        due("the last look alone meets", meeting.count(2), 1);
        due("the first of these is 118", meeting.count(3), 118);
        due("three are reached", meeting.count(1), 3);
    }

    private static void countOfTheEnds() {
        sentence("2 that meet a loan, 3 the first of these (-1: none)");
        Desk last = new Desk().borrow(0, 1, 1).nothings(118).use(0).change(1).goes(119, 118, -1);
        due("the last one meets", last.met(119, -1), 0);
        due("it alone", last.count(2), 1);
        due("and is the first", last.count(3), 119);
        Desk first = new Desk().change(1).borrow(0, 1, 1).use(0).goes(2, 0, -1).goes(0, 1, 2);
        due("point 0 meets", first.met(0, -1), 1);
        due("and is the first of these", first.count(3), 0);
        Desk several = new Desk().nothing().borrow(0, 1, 1).look(1).look(2).change(1).use(0).goes(5, 0, -1);
        due("two meet", several.count(2), 2);
        due("the first of these has the least number", several.count(3), 2);
        several.goes(0, 4, 1).goes(4, 2, -1).goes(3, 5, -1);
        due("though a way comes to another one ahead of it", several.count(3), 2);
    }

    private static void countOfOneMeeting() {
        sentence("2 that meet a loan, 3 the first of these (-1: none)");
        int[] loans = {0, 1, 31, 32, 62, 63, 64, 65, 116};
        for (int loan : loans) {
            Desk desk = new Desk().nothings(loan).borrow(0, 1, 1).look(1).use(0);
            due("the look meets loan " + loan, desk.count(2), 1);
            due("the look at loan " + loan + " is the first", desk.count(3), loan + 1);
        }
        Desk zero = new Desk().change(1).borrow(0, 1, 1).use(0).goes(2, 0, -1).goes(0, 1, 2);
        due("point 0 alone meets", zero.count(2), 1);
        Desk two = new Desk().look(1).borrow(0, 1, 1).look(1).use(0).goes(3, 0, -1).goes(0, 1, 3);
        due("point 0 and another one meet", two.count(2), 2);
    }

    /** The answer to one question of those that an object can be asked. */
    private static int ask(Desk desk, int question) {
        switch (question) {
            case 0: case 1: case 2: case 3: case 4:
                return desk.count(question);
            case 5:
                return desk.isReached(2) ? 1 : 0;
            case 6:
                return desk.holders(2, 0);
            case 7:
                return desk.used(0);
            case 8:
                return desk.isAlive(2, 0) ? 1 : 0;
            default:
                return desk.met(2, -1);
        }
    }

    private static Desk graphToBeChanged() {
        return new Desk().borrow(0, 1, 1).copy(1, 0).look(1).use(1);
    }

    /** Nothing that was found out before a change may be answered behind it, whatever is asked first. */
    private static void askedFirst() {
        int[] atFirst = {4, 4, 1, 2, 1, 1, 3, 1, 1, 0};
        int[] pastTheLook = {4, 3, 0, -1, 1, 0, 0, 1, 0, -1};
        int[] withOneMore = {5, 5, 1, 2, 2, 1, 3, 1, 1, 0};
        int[] cleared = {0, 0, 0, -1, 0, 0, 0, 0, 0, -1};
        for (int question = 0; question < atFirst.length; question++) {
            sentence("One more point, the next in number: its number");
            due("question " + question, ask(graphToBeChanged(), question), atFirst[question]);
            Desk more = graphToBeChanged();
            due("question " + question, ask(more, question), atFirst[question]);
            due("question " + question + " of a new point", ask(more.borrow(3, 3, 1), question), withOneMore[question]);
            sentence("What can come next to a point is told anew: x and y (-1: none): true");
            Desk next = graphToBeChanged();
            due("question " + question, ask(next, question), atFirst[question]);
            due("question " + question + " of a new next", ask(next.goes(1, 3, -1), question), pastTheLook[question]);
            due("question " + question + " of the old next", ask(next.goes(1, 2, -1), question), atFirst[question]);
            sentence("No points any more: how many there were.");
            Desk clear = graphToBeChanged();
            due("question " + question, ask(clear, question), atFirst[question]);
            due("clear", clear.clear(), 4);
            due("question " + question + " of no points", ask(clear, question), cleared[question]);
        }
    }

    private static void countOfMeetingPointsNotLoans() {
        sentence("2 that meet a loan");
        Desk desk = new Desk().borrow(0, 1, 0).borrow(1, 11, 0).borrow(2, 12, 0).change(1).use(0).use(1).use(2);
        due("a point that meets three counts once", desk.count(2), 1);
    }

    private static void anotherWhat() {
        sentence("-1 for another what");
        Desk empty = new Desk();
        Desk some = new Desk().borrow(0, 1, 1).look(1).use(0);
        for (int what = -120; what <= 125; what++) {
            if (what < 0 || what > 4) {
                due("count(" + what + ") of an empty desk", empty.count(what), -1);
                due("count(" + what + ")", some.count(what), -1);
            }
        }
        for (int what : FAR) {
            due("count(" + what + ") of an empty desk", empty.count(what), -1);
            due("count(" + what + ")", some.count(what), -1);
        }
        due("points are still counted", some.count(0), 3);
    }

    private static void clear() {
        sentence("No points any more: how many there were.");
        Desk empty = new Desk();
        due("of a new one", empty.clear(), 0);
        due("once more", empty.clear(), 0);
        Desk refused = new Desk();
        due("refused", refused.point(7, 0, 0, 0), -1);
        due("of refused points alone", refused.clear(), 0);
        int[] sizes = {1, 2, 64, 119, 120};
        for (int size : sizes) {
            Desk desk = new Desk().nothings(size);
            due("of " + size, desk.clear(), size);
            dueEmpty("cleared of " + size, desk);
        }
        Desk asked = new Desk().borrow(0, 1, 1).look(1).use(0);
        due("asked ahead of it", asked.met(1, -1), 0);
        due("of three", asked.clear(), 3);
        dueEmpty("cleared when asked", asked);
        due("of none", asked.clear(), 0);
    }

    private static void clearLeavesNothing() {
        sentence("No points any more: how many there were.");
        Desk desk = new Desk();
        for (int i = 0; i < 10; i++) {
            desk.borrow(i, 1, 1).look(1);
        }
        desk.use(0).goes(20, 3, 0).goes(0, 5, 6);
        due("it meets", desk.count(2) > 0, true);
        due("clear", desk.clear(), 21);
        desk.nothing().look(1).use(0);
        dueSame("as a new one", answers(desk.again()), answers(new Desk().nothing().look(1).use(0)));
        due("1 comes behind 0 again", desk.isReached(1), true);
        due("used(0)", desk.used(0), 1);
        due("used(2)", desk.used(2), 0);
        due("no loan is met", desk.met(1, -1), -1);
        for (int point = 3; point <= 21; point++) {
            dueNoPoint("what was a point", desk, point);
        }
        due("points", desk.count(0), 3);
    }

    private static void terms() {
        pointsOfTerms();
        nextsOfTerms();
        waysOfTerms();
        referencesOfTerms();
        placesOfTerms();
        overlapsOfTerms();
        borrowOfTerms();
        copyOfTerms();
        endOfTerms();
        doingsThatChangeNothing();
        copyUses();
        borrowLooks();
        heldBySomeWay();
        usedLater();
        alive();
        waysCountTogether();
        meets();
        borrowMeets();
        memory();
        refusedChangesNothing();
    }

    private static void promises1To3() {
        newObject();
        pointNumber();
        noSuchDoing();
        noSuchReference();
        noSuchPlace();
        noSuchKind();
        noRoom();
        notAskedIsNotLookedAt();
        nextTillNext();
        toldAnew();
        nextOfNoPoint();
        nextOutOfBounds();
        nextsNotThereYet();
    }

    private static void promises4To10() {
        isReached();
        holders();
        holdersOfManyLoans();
        used();
        isAlive();
        metAbove();
        metOfNoPoint();
        metWhereAWayComes();
        counts();
        countOfTheEnds();
        countOfOneMeeting();
        countOfMeetingPointsNotLoans();
        askedFirst();
        anotherWhat();
        clear();
        clearLeavesNothing();
    }

    public static void main(String[] args) {
        callsOfOneObject();
        dearestCallsOfOneObject();
        terms();
        promises1To3();
        promises4To10();
        System.out.println(wrong == 0 ? "all sentences hold" : wrong + " answers are not as due");
        if (wrong != 0) {
            System.exit(1);
        }
    }
}
