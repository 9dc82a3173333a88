/** Each promise by hand: ordinary inputs, the edges that the document names, and wrong inputs. */
public final class PromiseTests {
    private static final int LEAST = Integer.MIN_VALUE;
    private static final int MOST = Integer.MAX_VALUE;

    private static final int NOTHING = 0;
    private static final int BORROW = 1;
    private static final int COPY = 2;
    private static final int END = 3;
    private static final int USE = 4;
    private static final int LOOK = 5;
    private static final int CHANGE = 6;

    private static int wrong = 0;

    private static void due(String what, int got, int want) {
        if (got != want) {
            wrong++;
            System.out.println(what + " answered " + got + ", due is " + want);
        }
    }

    private static void due(String what, boolean got, boolean want) {
        due(what, got ? 1 : 0, want ? 1 : 0);
    }

    /** A desk with one point a row: doing, a, b, c. */
    private static LoanDesk desk(int[]... rows) {
        LoanDesk desk = new LoanDesk();
        for (int i = 0; i < rows.length; i++) {
            due("point " + i + " of a desk", desk.point(rows[i][0], rows[i][1], rows[i][2], rows[i][3]), i);
        }
        return desk;
    }

    private static int[] nothing() {
        return new int[] {NOTHING, 0, 0, 0};
    }

    private static int[] borrow(int reference, int place, int toChange) {
        return new int[] {BORROW, reference, place, toChange};
    }

    private static int[] copy(int to, int from) {
        return new int[] {COPY, to, from, 0};
    }

    private static int[] end(int reference) {
        return new int[] {END, reference, 0, 0};
    }

    private static int[] use(int reference) {
        return new int[] {USE, reference, 0, 0};
    }

    private static int[] look(int place) {
        return new int[] {LOOK, 0, place, 0};
    }

    private static int[] change(int place) {
        return new int[] {CHANGE, 0, place, 0};
    }

    private static void dueEmpty(String which, LoanDesk desk) {
        due(which + ": count(0)", desk.count(0), 0);
        due(which + ": count(1)", desk.count(1), 0);
        due(which + ": count(2)", desk.count(2), 0);
        due(which + ": count(3)", desk.count(3), -1);
        due(which + ": count(4)", desk.count(4), 0);
        due(which + ": isReached(0)", desk.isReached(0), false);
        due(which + ": holders(0, 0)", desk.holders(0, 0), 0);
        due(which + ": used(0)", desk.used(0), 0);
        due(which + ": isAlive(0, 0)", desk.isAlive(0, 0), false);
        due(which + ": met(0, -1)", desk.met(0, -1), -1);
        due(which + ": next(0, -1, -1)", desk.next(0, -1, -1), false);
    }

    private static void promise1() {
        LoanDesk desk = new LoanDesk();
        dueEmpty("new desk", desk);
        due("clear() of a new desk", desk.clear(), 0);
        LoanDesk other = desk(use(0));
        due("another desk has its own points", desk.count(0), 0);
        due("the other one keeps its points", other.count(0), 1);
    }

    private static void refused(LoanDesk desk, int doing, int a, int b, int c) {
        int before = desk.count(0);
        due("point(" + doing + ", " + a + ", " + b + ", " + c + ")", desk.point(doing, a, b, c), -1);
        due("points behind a refused point", desk.count(0), before);
    }

    private static void promise2Refusals() {
        LoanDesk desk = desk(use(3));
        int[] wrongDoings = {-1, 7, 8, LEAST, MOST};
        for (int doing : wrongDoings) {
            refused(desk, doing, 1, 1, 1);
        }
        int[] wrongReferences = {-1, 16, 17, 32, LEAST, MOST};
        for (int reference : wrongReferences) {
            refused(desk, BORROW, reference, 1, 0);
            refused(desk, COPY, reference, 1, 0);
            refused(desk, COPY, 1, reference, 0);
            refused(desk, END, reference, 0, 0);
            refused(desk, USE, reference, 0, 0);
        }
        int[] wrongPlaces = {0, -1, -11, 10, 20, 90, 100, 101, 110, 1000, 1011, 1101, 1110, 9990, 10000, 11111, 99999, LEAST, MOST};
        for (int place : wrongPlaces) {
            refused(desk, BORROW, 0, place, 0);
            refused(desk, LOOK, 0, place, 0);
            refused(desk, CHANGE, 0, place, 0);
        }
        int[] wrongKinds = {-1, 2, 3, LEAST, MOST};
        for (int kind : wrongKinds) {
            refused(desk, BORROW, 0, 1, kind);
        }
    }

    private static void promise2Takes() {
        LoanDesk desk = new LoanDesk();
        int[][] taken = {
            {NOTHING, LEAST, LEAST, LEAST}, {NOTHING, MOST, 0, -1},
            {BORROW, 0, 1, 0}, {BORROW, 15, 9999, 1}, {BORROW, 7, 47, 0}, {BORROW, 7, 471, 1},
            {COPY, 0, 15, MOST}, {COPY, 15, 0, LEAST}, {COPY, 4, 4, 9},
            {END, 0, MOST, MOST}, {END, 15, -1, -1},
            {USE, 0, LEAST, LEAST}, {USE, 15, 16, 2},
            {LOOK, -1, 9, -1}, {LOOK, MOST, 1111, MOST},
            {CHANGE, 16, 1, 2}, {CHANGE, LEAST, 99, LEAST},
        };
        for (int i = 0; i < taken.length; i++) {
            int[] row = taken[i];
            due("point(" + row[0] + ", " + row[1] + ", " + row[2] + ", " + row[3] + ")", desk.point(row[0], row[1], row[2], row[3]), i);
        }
    }

    private static void promise2Room() {
        LoanDesk desk = new LoanDesk();
        for (int i = 0; i < 120; i++) {
            due("point " + i, desk.point(i == 0 ? BORROW : i == 119 ? USE : NOTHING, 2, 5, 1), i);
        }
        refused(desk, NOTHING, 0, 0, 0);
        refused(desk, USE, 2, 0, 0);
        due("last of 120 is reached", desk.isReached(119), true);
        due("the loan is alive up to the last but one", desk.isAlive(118, 0), true);
        due("none is used behind the last", desk.used(119), 0);
        due("none is at 120", desk.isReached(120), false);
        due("all 120 are reached", desk.count(1), 120);
        due("the last goes back", desk.next(119, 5, -1), true);
        due("the first goes nowhere", desk.next(0, -1, -1), true);
        due("nothing is left of the ways before", desk.count(1), 1);
    }

    private static void promise2Next() {
        LoanDesk desk = desk(nothing(), nothing(), nothing());
        due("a next told for 1", desk.next(1, 0, -1), true);
        due("2 is not reached", desk.isReached(2), false);
        due("clear()", desk.clear(), 3);
        desk.point(NOTHING, 0, 0, 0);
        desk.point(NOTHING, 0, 0, 0);
        desk.point(NOTHING, 0, 0, 0);
        due("a new point 1 goes on to 2 again", desk.isReached(2), true);
        due("told none", desk.next(0, -1, -1), true);
        due("refused", desk.point(9, 0, 0, 0), -1);
        due("what was told stays", desk.isReached(1), false);
    }

    private static void promise3() {
        LoanDesk desk = desk(nothing(), nothing(), nothing(), nothing());
        due("0 to 2 and 3", desk.next(0, 2, 3), true);
        due("1 is not reached", desk.isReached(1), false);
        due("2 is reached by x", desk.isReached(2), true);
        due("3 is reached", desk.isReached(3), true);
        due("0 to none and 3", desk.next(0, -1, 3), true);
        due("2 is no more reached", desk.isReached(2), false);
        due("3 is reached by y", desk.isReached(3), true);
        int[][] refusals = {{4, 0, 0}, {-1, 0, 0}, {120, 0, 0}, {LEAST, 0, 0}, {MOST, 0, 0}, {0, -2, 1}, {0, 1, -2},
            {0, 120, 1}, {0, 1, 120}, {0, LEAST, 1}, {0, 1, LEAST}, {0, MOST, 1}, {0, 1, MOST}};
        for (int[] row : refusals) {
            due("next(" + row[0] + ", " + row[1] + ", " + row[2] + ")", desk.next(row[0], row[1], row[2]), false);
            due("a refused next changes nothing", desk.isReached(1), false);
            due("a refused next leaves y", desk.isReached(3), true);
        }
        due("both the same", desk.next(0, 1, 1), true);
        due("1 is reached", desk.isReached(1), true);
        due("to itself", desk.next(0, 0, -1), true);
        due("only 0 is reached", desk.count(1), 1);
    }

    private static void promise3PointsToCome() {
        LoanDesk desk = desk(borrow(1, 3, 1));
        due("to points to come", desk.next(0, 119, 2), true);
        due("point 1", desk.point(NOTHING, 0, 0, 0), 1);
        due("1 is not reached", desk.isReached(1), false);
        due("2 is not there", desk.isReached(2), false);
        due("no use yet", desk.used(0), 0);
        due("point 2", desk.point(USE, 1, 0, 0), 2);
        due("2 is reached as it comes", desk.isReached(2), true);
        due("1 is still not reached", desk.isReached(1), false);
        due("used as it comes", desk.used(0), 2);
        for (int i = 3; i < 119; i++) {
            due("point " + i, desk.point(NOTHING, 0, 0, 0), i);
        }
        due("no way on from 2", desk.next(2, -1, -1), true);
        due("119 is not there", desk.isReached(119), false);
        due("point 119", desk.point(LOOK, 0, 31, 0), 119);
        due("119 is reached", desk.isReached(119), true);
        due("118 is not", desk.isReached(118), false);
        due("holders at 119", desk.holders(119, 0), 2);
        due("119 goes to 2", desk.next(119, 2, -1), true);
        due("119 meets", desk.met(119, -1), 0);
    }

    private static void promise4() {
        LoanDesk desk = desk(nothing(), nothing(), nothing(), nothing(), nothing());
        desk.next(1, 4, -1);
        due("0", desk.isReached(0), true);
        due("1", desk.isReached(1), true);
        due("2 is passed by", desk.isReached(2), false);
        due("3 comes only behind 2", desk.isReached(3), false);
        due("4", desk.isReached(4), true);
        desk.next(4, 3, 0);
        due("3 by a way back", desk.isReached(3), true);
        due("2 still not", desk.isReached(2), false);
        desk.next(3, 2, -1);
        due("2 by a way back", desk.isReached(2), true);
        int[] none = {-1, 5, 119, 120, LEAST, MOST};
        for (int point : none) {
            due("isReached(" + point + ")", desk.isReached(point), false);
        }
    }

    private static void promise5() {
        LoanDesk desk = desk(borrow(0, 1, 0), copy(15, 0), copy(15, 15), borrow(0, 2, 0), copy(3, 2), copy(15, 3), end(0), end(9));
        int[] ofLoan0 = {1, 0x8001, 0x8001, 0x8000, 0x8000, 0, 0, 0};
        int[] ofLoan3 = {0, 0, 0, 1, 1, 1, 0, 0};
        for (int point = 0; point < 8; point++) {
            due("holders(" + point + ", 0)", desk.holders(point, 0), ofLoan0[point]);
            due("holders(" + point + ", 3)", desk.holders(point, 3), ofLoan3[point]);
            due("holders of no loan", desk.holders(point, 1), 0);
        }
        int[] none = {-1, 8, 119, 120, LEAST, MOST};
        for (int number : none) {
            due("holders(" + number + ", 0)", desk.holders(number, 0), 0);
            due("holders(3, " + number + ")", desk.holders(3, number), 0);
        }
    }

    private static void promise5Ways() {
        LoanDesk fork = desk(borrow(0, 1, 0), borrow(1, 2, 0), copy(0, 1), nothing());
        fork.next(1, 2, 3);
        due("by the way past the copy", fork.holders(3, 0), 1);
        due("by the way through the copy", fork.holders(3, 1), 3);
        LoanDesk hidden = desk(nothing(), borrow(2, 1, 0), nothing());
        hidden.next(0, 2, -1);
        due("a loan that no way comes to", hidden.holders(1, 1), 0);
        due("nor is it held behind", hidden.holders(2, 1), 0);
        // The loan goes one reference further in each round of the loop.
        LoanDesk loop = desk(borrow(0, 1, 0), copy(3, 2), copy(2, 1), copy(1, 0), nothing());
        loop.next(3, 1, 4);
        due("behind the loop", loop.holders(4, 0), 15);
        due("behind its first copy", loop.holders(1, 0), 15);
        due("before it", loop.holders(0, 0), 1);
    }

    private static void promise6() {
        LoanDesk desk = desk(use(0), use(1), borrow(2, 1, 0), use(2), end(3), use(3), copy(4, 5), use(4), copy(6, 6), use(15));
        int[] later = {0x8062, 0x8060, 0x8064, 0x8060, 0x8068, 0x8060, 0x8050, 0x8040, 0x8000, 0};
        for (int point = 0; point < 10; point++) {
            due("used(" + point + ")", desk.used(point), later[point]);
        }
        int[] none = {-1, 10, 119, 120, LEAST, MOST};
        for (int point : none) {
            due("used(" + point + ")", desk.used(point), 0);
        }
        LoanDesk fork = desk(nothing(), end(0), use(0), use(1));
        fork.next(0, 1, 2);
        due("by the way past the end", fork.used(0), 3);
        due("by ways back", fork.next(3, 3, 0), true);
        due("a point is behind itself in a loop", fork.used(3), 3);
        LoanDesk passed = desk(nothing(), nothing(), use(4));
        passed.next(0, -1, -1);
        due("used by a way from there, though none comes there", passed.used(1), 16);
        due("a look uses none", desk(nothing(), look(1), change(1)).used(0), 0);
    }

    private static void promise7() {
        LoanDesk desk = desk(borrow(0, 1, 0), copy(1, 0), use(0), nothing(), use(1), end(1));
        boolean[] alive = {true, true, true, true, false, false};
        for (int point = 0; point < 6; point++) {
            due("isAlive(" + point + ", 0)", desk.isAlive(point, 0), alive[point]);
            due("isAlive of no loan", desk.isAlive(point, 1), false);
        }
        int[] none = {-1, 6, 119, 120, LEAST, MOST};
        for (int number : none) {
            due("isAlive(" + number + ", 0)", desk.isAlive(number, 0), false);
            due("isAlive(0, " + number + ")", desk.isAlive(0, number), false);
        }
        due("held and used by others", desk(borrow(0, 1, 0), use(1)).isAlive(0, 0), false);
        due("told anew ahead of its use", desk(borrow(0, 1, 0), borrow(0, 2, 0), use(0)).isAlive(0, 0), false);
        // Held by the way through 1, used by the way through 5: they count together at 3.
        LoanDesk cross = desk(nothing(), borrow(0, 1, 0), nothing(), nothing(), nothing(), use(0));
        cross.next(0, 1, 2);
        cross.next(1, 3, -1);
        cross.next(3, 4, 5);
        cross.next(4, -1, -1);
        due("ways to and from count together", cross.isAlive(3, 1), true);
        due("not on the way to no use", cross.isAlive(4, 1), false);
        due("not where none holds it", cross.isAlive(2, 1), false);
        cross.next(0, 2, -1);
        due("a point that no way comes to", cross.isAlive(1, 1), false);
    }

    private static void promise8Kinds() {
        int[][][] rows = {
            {borrow(0, 1, 0), look(1), use(0)}, {borrow(0, 1, 1), look(1), use(0)},
            {borrow(0, 1, 0), change(1), use(0)}, {borrow(0, 1, 1), change(1), use(0)},
            {borrow(0, 1, 0), borrow(1, 1, 0), use(0)}, {borrow(0, 1, 1), borrow(1, 1, 0), use(0)},
            {borrow(0, 1, 0), borrow(1, 1, 1), use(0)}, {borrow(0, 1, 1), borrow(1, 1, 1), use(0)},
            {borrow(0, 1, 1), borrow(0, 1, 1), use(0)}, {borrow(0, 1, 1), change(1), end(0)},
            {borrow(0, 1, 1), use(0), use(0)}, {borrow(0, 1, 1), copy(1, 0), use(1)},
            {borrow(0, 1, 1), nothing(), use(0)}, {borrow(0, 1, 1), copy(1, 1), use(0)},
        };
        int[] first = {-1, 0, 0, 0, -1, 0, 0, 0, -1, -1, -1, -1, -1, -1};
        for (int i = 0; i < rows.length; i++) {
            due("met(1, -1) of kind " + i, desk(rows[i]).met(1, -1), first[i]);
            due("met(0, -1) of kind " + i, desk(rows[i]).met(0, -1), -1);
            due("met(2, -1) of kind " + i, desk(rows[i]).met(2, -1), -1);
        }
    }

    private static void promise8Places() {
        int[][] pairs = {{1, 1}, {1, 12}, {12, 1}, {12, 123}, {1, 1999}, {4719, 47}, {9999, 9999}, {471, 4711},
            {1, 2}, {1, 21}, {12, 13}, {12, 11}, {2, 12}, {12, 2}, {21, 1}, {123, 12}, {123, 23}, {124, 1239}, {47, 147}, {9, 8999}, {1111, 1112}};
        for (int[] pair : pairs) {
            boolean overlap = ("" + pair[0]).startsWith("" + pair[1]) || ("" + pair[1]).startsWith("" + pair[0]);
            LoanDesk desk = desk(borrow(0, pair[0], 0), change(pair[1]), use(0));
            due("places " + pair[0] + " and " + pair[1], desk.met(1, -1), overlap ? 0 : -1);
        }
    }

    private static void promise8After() {
        LoanDesk desk = desk(borrow(0, 1, 0), borrow(1, 11, 0), borrow(2, 2, 0), borrow(3, 12, 1), change(1), use(0), use(1), use(2), use(3));
        due("above -1", desk.met(4, -1), 0);
        due("above the least", desk.met(4, LEAST), 0);
        due("above 0", desk.met(4, 0), 1);
        due("above 1", desk.met(4, 1), 3);
        due("above 2", desk.met(4, 2), 3);
        due("above 3", desk.met(4, 3), -1);
        due("above the most", desk.met(4, MOST), -1);
        due("the borrow to be changed meets what lies over its place", desk.met(3, -1), 0);
        due("and no more", desk.met(3, 0), -1);
        int[] none = {-1, 9, 119, 120, LEAST, MOST};
        for (int point : none) {
            due("met(" + point + ", -1)", desk.met(point, -1), -1);
        }
    }

    private static void promise8ManyLoans() {
        // Loans on both sides of 64, held by 16 references; those behind them are dropped by later ones.
        LoanDesk desk = new LoanDesk();
        for (int i = 0; i < 80; i++) {
            due("loan " + i, desk.point(BORROW, i % 16, 1, 0), i);
        }
        due("change", desk.point(CHANGE, 0, 1, 0), 80);
        for (int i = 0; i < 16; i++) {
            due("use " + i, desk.point(USE, i, 0, 0), 81 + i);
        }
        int loan = -1;
        for (int i = 64; i < 80; i++) {
            loan = desk.met(80, loan);
            due("next loan met", loan, i);
        }
        due("no more", desk.met(80, loan), -1);
        due("one meets", desk.count(2), 1);
    }

    private static void promise8OwnLoan() {
        // 1 is come to again while reference 1 still holds the loan of the round before.
        LoanDesk loop = desk(nothing(), borrow(0, 3, 1), use(1), copy(1, 0), nothing());
        loop.next(3, 1, 4);
        due("its own loan, held by another one", loop.met(1, -1), 1);
        due("both hold it", loop.holders(1, 1), 3);
        LoanDesk alone = desk(nothing(), borrow(0, 3, 1), use(0), nothing());
        alone.next(2, 1, 3);
        due("its own loan, held by its own reference alone", alone.met(1, -1), -1);
        due("yet it is alive", alone.isAlive(1, 1), true);
        LoanDesk unused = desk(nothing(), borrow(0, 3, 1), copy(1, 0), use(0), nothing());
        unused.next(3, 1, 4);
        due("its own loan, held by one that is not used later", unused.met(1, -1), -1);
        LoanDesk shared = desk(nothing(), borrow(0, 3, 0), use(1), copy(1, 0), nothing());
        shared.next(3, 1, 4);
        due("a shared one is only looked at", shared.met(1, -1), -1);
    }

    private static void promise8NotReached() {
        LoanDesk desk = desk(borrow(0, 1, 1), change(1), use(0));
        due("reached", desk.met(1, -1), 0);
        desk.next(0, 2, -1);
        due("not reached", desk.met(1, -1), -1);
        LoanDesk hidden = desk(nothing(), borrow(0, 1, 1), change(1), use(0));
        due("reached", hidden.met(2, -1), 1);
        hidden.next(0, 3, -1);
        due("loan and change not reached", hidden.met(2, -1), -1);
        hidden.next(0, 2, -1);
        due("loan not reached", hidden.met(2, -1), -1);
    }

    private static void promise9() {
        LoanDesk desk = desk(nothing(), borrow(0, 1, 1), look(11), change(12), borrow(1, 13, 0), use(0), borrow(2, 5, 0), use(1));
        due("points", desk.count(0), 8);
        due("reached", desk.count(1), 8);
        due("meeting", desk.count(2), 3);
        due("first meeting", desk.count(3), 2);
        due("loans", desk.count(4), 3);
        desk.next(1, 3, -1);
        due("reached without 2", desk.count(1), 7);
        due("meeting without 2", desk.count(2), 2);
        due("first meeting without 2", desk.count(3), 3);
        desk.next(0, -1, -1);
        due("points stay", desk.count(0), 8);
        due("only 0 is reached", desk.count(1), 1);
        due("none meets", desk.count(2), 0);
        due("none is first", desk.count(3), -1);
        due("loans stay", desk.count(4), 3);
        int[] none = {-1, 5, 6, LEAST, MOST};
        for (int what : none) {
            due("count(" + what + ")", desk.count(what), -1);
        }
        // Point 0 itself meets: it is come to again with its loan in another hand.
        LoanDesk first = desk(borrow(0, 1, 1), use(1), copy(1, 0));
        first.next(2, 0, -1);
        due("the first may be 0", first.count(3), 0);
    }

    private static void promise10() {
        LoanDesk desk = desk(borrow(0, 1, 1), change(1), use(0));
        due("meets", desk.count(2), 1);
        due("clear()", desk.clear(), 3);
        dueEmpty("cleared desk", desk);
        due("clear() again", desk.clear(), 0);
        due("a point anew is 0", desk.point(CHANGE, 0, 1, 0), 0);
        due("point 1", desk.point(USE, 0, 0, 0), 1);
        due("nothing is left of the loans", desk.met(0, -1), -1);
        due("nor of holders", desk.holders(0, 0), 0);
        due("used anew", desk.used(0), 1);
        due("used anew at 1", desk.used(1), 0);
        due("clear()", desk.clear(), 2);
        for (int i = 0; i < 120; i++) {
            due("room for all again", desk.point(NOTHING, 0, 0, 0), i);
        }
        due("full", desk.point(NOTHING, 0, 0, 0), -1);
        due("clear() of a full desk", desk.clear(), 120);
    }

    public static void main(String[] args) {
        promise1();
        promise2Refusals();
        promise2Takes();
        promise2Room();
        promise2Next();
        promise3();
        promise3PointsToCome();
        promise4();
        promise5();
        promise5Ways();
        promise6();
        promise7();
        promise8Kinds();
        promise8Places();
        promise8After();
        promise8ManyLoans();
        promise8OwnLoan();
        promise8NotReached();
        promise9();
        promise10();
        System.out.println(wrong == 0 ? "all promises hold" : wrong + " answers are not as due");
        if (wrong != 0) {
            System.exit(1);
        }
    }
}
