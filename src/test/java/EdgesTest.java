/**
 * The sentences of promises 10 to 29 that name a limit, an end, something empty or full: the value
 * just inside, and the one just outside where RefusedTest has not refused it. And for all promises,
 * that no number inside its limits is BAD. One or more methods a promise.
 */
public final class EdgesTest {
    private static final String WIDEST = "l000000;l000000;l000000;l000000;l000000;l000000;";

    private static final Due due = new Due();

    public static void main(String[] args) {
        insideOfAll("l0;t0,0,0,0;", 1, 1);
        insideOfAll(WIDEST + "t0,1,1,0;t1,2,9,35;t2,3,4,20,21;", 36, 3);
        insideOfAll("l012;l301;t3,3,9,5;t2,0,0,0,1;", 6, 2);
        pass();
        dig();
        fill();
        leave();
        undo();
        behind();
        wealth();
        comes();
        meet();
        again();
        ditches();
        best();
        see();
        forget();
        fits();
        frost();
        centuryByDraw();
        centuryByYears();
        keep();
        back();
        count();
        due.end("EdgesTest");
    }

    /** BAD is for none of the numbers that are told, the lowest and highest ones among them. */
    private static void insideOfAll(String text, int cells, int rows) {
        for (Limits limits : Limits.of(cells, rows)) {
            WalkingOrchard o = Due.laid(text);
            for (String call : limits.inside()) {
                due.is("inside its limits: " + call + " of " + text, Calls.answer(o, call) == Due.BAD ? 1 : 0, 0);
            }
        }
    }

    private static void pass() {
        WalkingOrchard many = new WalkingOrchard();
        WalkingOrchard one = new WalkingOrchard();
        due.is("10: 20 at one time", many.pass(20), 20);
        for (int i = 1; i <= 20; i++) {
            due.is("10: one by one", one.pass(1), i);
        }
        for (int p = 0; p < 4; p++) {
            due.is("10: owner " + p, many.has(p), one.has(p));
        }
        due.is("10: 20 are undone as one", many.undo(), 0);
        due.is("10: the year", many.count(3), 0);
        due.is("10: one of 20 is undone", one.undo(), 7);
        due.is("10: the year", one.count(3), 19);
        for (int year = 39; year <= 39 + 400 * 20; year += 20) {
            due.is("10: years have no end", one.pass(20), year);
        }
    }

    /** All cells but one are ditches: no more can be dug, then none can be filled. */
    private static void dig() {
        WalkingOrchard o = Due.laid(WIDEST + "t0,1,1,14;");
        int dug = 0;
        for (int x = 0; x < 36; x++) {
            due.is("11: dig(" + x + ")", o.dig(x), x == 14 ? Due.NO : ++dug);
        }
        for (int x = 0; x < 36; x++) {
            due.is("11: once more, dig(" + x + ")", o.dig(x), Due.NO);
        }
        due.is("11: all of them", o.count(6), 35);
        due.is("11: the last 8 can be undone", o.count(9), 8);
        due.is("11: the row stays", o.row(0, 4), Due.NONE);
        for (int x = 35; x >= 0; x--) {
            due.is("12: fill(" + x + ")", o.fill(x), x == 14 ? Due.NO : --dug);
        }
        for (int x = 0; x < 36; x++) {
            due.is("12: once more, fill(" + x + ")", o.fill(x), Due.NO);
        }
        due.is("12: none of them", o.count(6), 0);
        due.is("12: the row goes", o.row(0, 4), 15);
    }

    private static void fill() {
        WalkingOrchard o = Due.laid("l000;t0,1,1,0;");
        due.is("12: no ditch", o.fill(2), Due.NO);
        due.is("12: nothing to be undone", o.count(9), 0);
        o.dig(2);
        due.is("12: the first ditch", o.fill(2), 0);
        due.is("12: 2 to be undone", o.count(9), 2);
        due.is("12: filled", o.fill(2), Due.NO);
        o.undo();
        due.is("12: undone", o.fill(2), 0);
    }

    /** Nine trees of twelve, the most there can be, are left behind. */
    private static void leave() {
        WalkingOrchard o = Due.laid(WIDEST + "t0,1,1,3,2,1,0;t0,1,2,9,8,7,6;t0,1,3,15,14,13,12;");
        due.is("13: trees of rows at first", o.count(4), 12);
        for (int r = 0; r < 3; r++) {
            for (int k = 3; k > 0; k--) {
                due.is("13: of row " + r, o.leave(r), 6 * r + 3 - k);
            }
            due.is("13: one alone, row " + r, o.leave(r), Due.NO);
        }
        due.is("13: trees of rows", o.count(4), 3);
        due.is("13: left behind", o.count(5), 9);
        o.pass(20);
        due.is("13: left behind, 20 years on", o.count(5), 9);
        for (int i = 0; i < 9; i++) {
            due.is("13: still there", o.cell(6 * (i / 3) + i % 3, 3), 9);
        }
    }

    private static void undo() {
        for (int done = 0; done <= 12; done++) {
            WalkingOrchard o = Due.laid("l000000;t0,1,1,1,0;");
            String[] calls = {"dig(5)", "pass(1)", "leave(0)", "fill(5)", "pass(20)", "dig(0)", "dig(4)", "fill(0)",
                "pass(2)", "fill(4)", "dig(3)", "pass(3)"};
            int[] years = {0, 0, 1, 1, 1, 21, 21, 21, 21, 23, 23, 23, 26};
            int[] ditches = {0, 1, 1, 1, 0, 0, 1, 2, 1, 1, 0, 1, 1};
            for (int i = 0; i < done; i++) {
                Calls.run(o, calls[i]);
            }
            int can = Math.min(done, 8);
            due.is("14: of " + done + " can be", o.count(9), can);
            for (int i = 1; i <= can; i++) {
                due.is("14: undo " + i + " of " + done, o.undo(), can - i);
                due.is("14: year behind undo " + i + " of " + done, o.count(3), years[done - i]);
                due.is("14: ditches behind undo " + i + " of " + done, o.count(6), ditches[done - i]);
            }
            due.is("14: no more of " + done, o.undo(), Due.NO);
            due.is("14: no more of " + done, o.undo(), Due.NO);
            due.is("14: the year stays", o.count(3), years[done - can]);
        }
    }

    private static void behind() {
        WalkingOrchard o = new WalkingOrchard();
        int[] last = {o.behind(60, 0), o.behind(60, 1), o.behind(60, 2)};
        int[] later = {o.behind(59, 0), o.behind(59, 1), o.behind(59, 2)};
        for (int r = 0; r < 3; r++) {
            due.is("15: behind none, row " + r, o.behind(0, r), o.tree(r, 0));
        }
        Calls.run(o, "pass(20)", "pass(20)", "pass(19)");
        for (int r = 0; r < 3; r++) {
            due.is("15: behind 59, row " + r, o.tree(r, 0), later[r]);
            due.is("15: behind 60, row " + r, o.behind(1, r), last[r]);
        }
    }

    private static void wealth() {
        WalkingOrchard o = new WalkingOrchard();
        o.pass(7);
        int[] last = new int[4];
        for (int p = 0; p < 4; p++) {
            due.is("16: behind none, owner " + p, o.wealth(0, p), o.has(p));
            last[p] = o.wealth(60, p);
        }
        Calls.run(o, "pass(20)", "pass(20)", "pass(20)");
        for (int p = 0; p < 4; p++) {
            due.is("16: behind 60, owner " + p, o.has(p), last[p]);
        }
    }

    private static void comes() {
        WalkingOrchard o = Due.laid("l000;l030;l000;t0,1,0,0;");
        due.is("17: where it is now: behind none", o.comes(0, 0), 0);
        due.is("17: behind one", o.comes(0, 1), 1);
        due.is("17: never in a house", o.comes(0, 4), Due.NONE);
        o.pass(1);
        due.is("17: where it was, once round", o.comes(0, 0), 7);
        o = Due.laid("l0;t0,1,0,0;");
        due.is("17: of one cell", o.comes(0, 0), 0);
    }

    private static void meet() {
        due.is("18: now", Due.laid("l00;t0,1,0,0;t0,1,0,1;").meet(0, 1), 0);
        due.is("18: behind one", Due.laid("l000;t0,1,0,0;t0,1,0,2;").meet(0, 1), 1);
        due.is("18: never", Due.laid("l030;t0,1,0,0;t0,1,0,2;").meet(0, 1), Due.NONE);
        due.is("18: not from a line's end to the next line", Due.laid("l300;l003;t0,0,0,3;t0,0,0,2;").meet(0, 1), 1);
        due.is("18: askew is not beside", Due.laid("l03;l30;t0,0,0,0;t0,0,0,3;").meet(0, 1), Due.NONE);
        due.is("18: alike", Due.laid("l00;t0,1,0,0,1;").meet(0, 0), Due.BAD);
    }

    private static void again() {
        due.is("19: behind one", Due.laid("l3;l0;t0,1,0,1;").again(), 1);
        due.is("19: round four cells, from the first on", Due.laid("l00;l00;t0,0,1,0;").again(), 4);
        due.is("19: two of them, one behind the other", Due.laid("l00;l00;t0,0,1,0,2;").again(), 4);
        // All come round behind 201 years: a year too late.
        String late = "l000000;l000000;l000000;l000000;l000200;t1,1,1,22;t3,0,1,0;t0,2,1,23,17,11;";
        WalkingOrchard o = Due.laid(late);
        due.is("19: not behind 201", o.again(), Due.NONE);
        for (int i = 0; i < 10; i++) {
            o.pass(20);
        }
        o.pass(1);
        WalkingOrchard first = Due.laid(late);
        for (int r = 0; r < 3; r++) {
            due.is("19: heads as at first, row " + r, o.row(r, 1), first.row(r, 1));
            for (int k = 0; k < 4; k++) {
                due.is("19: where it was at first", o.tree(r, k), first.tree(r, k));
            }
        }
        due.is("19: not behind 201 once more", o.again(), Due.NONE);
        // What stays is as now behind one year; with a slow row, behind two.
        due.is("19: a slow one among others", Due.laid("l030;t0,1,0,0;t2,1,0,2;").again(), 2);
        o = Due.laid("l030;t0,1,0,0;t2,1,0,2;");
        o.pass(1);
        due.is("19: uneven as now", o.again(), 2);
        due.is("19: none of them slow", Due.laid("l030;t0,1,0,0;t3,1,0,2;").again(), 1);
    }

    private static void ditches() {
        WalkingOrchard o = Due.laid("l1110;t0,1,0,0;t0,1,0,3;");
        due.is("20: nowhere can one be dug, none is needed", o.ditches(0, 2, 2, -1), 0);
        due.all("20: none is needed: no first, no second", Due.NONE, o.ditches(0, 2, 2, 0), o.ditches(0, 2, 2, 1));
        due.all("20: nowhere can one be dug", Due.NONE, o.ditches(0, 0, 1, -1), o.ditches(0, 0, 1, 0),
            o.ditches(0, 0, 1, 1));
        o = Due.laid(WIDEST + "t0,2,0,29;t0,1,0,0;");
        due.is("20: the last cell is the second of two", o.ditches(0, 29, 1, -1), 2);
        due.is("20: the first", o.ditches(0, 29, 1, 0), 28);
        due.is("20: the second", o.ditches(0, 29, 1, 1), 35);
        due.is("20: the last cell is the only one", o.ditches(0, 28, 1, 0), 35);
        o = Due.laid(WIDEST + "t0,3,0,1;");
        due.is("20: the first cell is the only one", o.ditches(0, 7, 1, -1), 1);
        o = Due.laid(WIDEST + "t1,3,0,1;");
        due.is("20: the first cell is the only one, to the left", o.ditches(0, 7, 1, 0), 0);
        o = Due.laid("l33;l30;l30;t0,0,0,5;");
        due.is("20: in the cell ahead", o.ditches(0, 5, 20, -1), 1);
        due.is("20: which", o.ditches(0, 5, 20, 0), 3);
        due.is("20: no second", o.ditches(0, 5, 20, 1), Due.NONE);
        due.is("20: number 2", o.ditches(0, 5, 20, 2), Due.BAD);
        due.is("20: number -2", o.ditches(0, 5, 20, -2), Due.BAD);
        o.dig(3);
        due.is("20: it is dug", o.ditches(0, 5, 20, -1), 0);
        due.is("20: what cannot be any more", o.ditches(0, 3, 1, -1), Due.NONE);
        o = Due.laid("l000000;l333333;l333333;l333333;l333333;l333330;t0,1,0,0;t0,1,0,35;");
        due.is("20: straight on by 5", o.ditches(0, 5, 5, -1), 0);
        due.is("20: it stays there by 20", o.ditches(0, 5, 20, -1), 0);
        due.is("20: not that far by 4", o.ditches(0, 5, 4, -1), Due.NONE);
        for (int x = 0; x < 5; x++) {
            due.is("20: kept in " + x + " by 20", o.ditches(0, x, 20, -1), 1);
            due.is("20: kept in " + x + " by a ditch in", o.ditches(0, x, 20, 0), x + 1);
        }
    }

    private static void best() {
        WalkingOrchard o = Due.laid(WIDEST + "t0,1,9,0;");
        for (int x = 1; x < 35; x++) {
            o.dig(x);
        }
        due.is("21: the last cell alone", o.best(3, 1, 0), 35);
        due.is("21: how much", o.best(0, 20, 1), 180);
        o.dig(35);
        due.all("21: none is left", Due.NONE, o.best(0, 1, 0), o.best(0, 20, 1), o.best(3, 1, 1));
        due.is("21: what of it", o.best(0, 1, 2), Due.BAD);
        o.fill(1);
        due.is("21: one is left", o.best(0, 20, 0), 1);
        o = Due.laid(WIDEST + "t0,1,9,14;");
        due.is("21: all alike: the lowest", o.best(3, 20, 0), 0);
        due.is("21: nothing", o.best(3, 20, 1), 0);
        due.is("21: one year", Due.laid("l00;o1,1,2;t0,1,9,0;").best(0, 1, 1), 9);
        due.is("21: 20 years", Due.laid("l00;o1,1,2;t0,1,9,0;").best(0, 20, 1), 180);
    }

    private static void see() {
        WalkingOrchard o = Due.laid(WIDEST + "t0,1,1,0;t0,1,1,12;t0,1,1,24;");
        for (int n = 1; n <= 6; n++) {
            due.is("22: number " + n, o.see(n % 3, n % 2 * 35, n % 2 * 20), n);
        }
        due.all("22: no seventh", Due.FULL, o.see(0, 0, 0), o.see(2, 35, 20));
        due.all("22: BAD ahead of FULL", Due.BAD, o.see(3, 0, 0), o.see(0, 36, 0), o.see(0, 0, 21));
        due.is("22: six", o.count(8), 6);
        due.is("23: all six", o.forget(), 6);
        due.is("22: the first once more", o.see(2, 35, 20), 1);
    }

    private static void forget() {
        WalkingOrchard o = Due.laid("l00;t0,1,0,0;");
        due.is("23: nothing", o.forget(), 0);
        o.see(0, 1, 0);
        o.pass(1);
        o.see(0, 0, 0);
        due.is("23: by years it is not forgotten", o.forget(), 2);
        due.is("23: nothing is left", o.forget(), 0);
        due.is("23: so all fits", o.fits(0, 0), 15);
        due.is("23: it cannot be undone", o.undo(), 0);
        due.is("23: nor comes back", o.count(8), 0);
    }

    /** Row 0 goes round nine cells, eight of them, to the right. */
    private static void fits() {
        WalkingOrchard o = Due.laid("l000;l030;l000;t0,1,0,0;");
        due.is("24: nothing is seen: any", o.fits(0, 0), 15);
        due.is("24: nothing is seen: any kind", o.fits(0, 1), 15);
        // Round to the right by east and north, by south to the left; west, behind its turn, to the left.
        int[] cells = {0, 1, 2, 5, 8, 1};
        int[] years = {0, 1, 2, 3, 20, 17};
        for (int i = 0; i < 6; i++) {
            due.is("24: seen", o.see(0, cells[i], years[i]), i + 1);
            due.is("24: of those, heads", o.fits(0, 0), i == 0 ? 15 : 3);
            due.is("24: of those, kinds", o.fits(0, 1), i < 2 ? 15 : 11);
        }
        o.forget();
        o.see(0, 0, 0);
        o.see(0, 8, 20);
        due.is("24: behind 20 either way round", o.fits(0, 0), 15);
        o.see(0, 7, 20);
        due.is("24: not in two cells at one time", o.fits(0, 0), 0);
        due.is("24: nor of any kind", o.fits(0, 1), 0);
        o.forget();
        o.see(0, 1, 0);
        due.is("24: not where it is not now", o.fits(0, 0), 0);
    }

    private static void chance(String what, WalkingOrchard o, int[] call, int above, int below) {
        due.is("25: " + what + ", above", o.frost(0, call[0], call[1], call[2], 0), above);
        due.is("25: " + what + ", below", o.frost(0, call[0], call[1], call[2], 1), below);
    }

    private static void frost() {
        WalkingOrchard o = Due.laid("l000000;l333333;l000000;t0,1,0,0;t0,1,0,12;");
        int[] above = {0, 1, 1, 3, 2, 1, 3, 7, 4, 9, 1};
        int[] below = {1, 10, 5, 10, 5, 2, 5, 10, 5, 10, 1};
        for (int x = 0; x <= 10; x++) {
            chance("stays by " + x, o, new int[] {0, 1, x}, above[x], below[x]);
            chance("goes by " + x, o, new int[] {1, 1, x}, above[10 - x], below[10 - x]);
            chance("no year by " + x, o, new int[] {0, 0, x}, 1, 1);
            chance("no year, elsewhere by " + x, o, new int[] {1, 0, x}, 0, 1);
        }
        int power = 1;
        for (int n = 0; n <= 8; n++) {
            chance("stays in all of " + n, o, new int[] {0, n, 1}, 1, power);
            chance("never, in " + n, o, new int[] {Math.min(n, 5), n, 0}, 1, 1);
            chance("always, in " + n, o, new int[] {0, n, 10}, 1, 1);
            chance("too far in " + n, o, new int[] {17, n, 5}, 0, 1);
            power *= 10;
        }
        chance("once in 8 it goes", o, new int[] {1, 8, 9}, 4782969, 12500000);
    }

    /** DRAWS of all that there can be modulo 8: the land has a ditch in 5, and 3 and 4 without one. */
    private static void centuryByDraw() {
        int[][] due4 = {{6, 2, 4}, {42, 1, 4}, {11, 1, 4}, {5, 1, 4}, {7, 2, 4}, {9, 1, 4}, {8, 1, 4}, {23, 0, 4},
            {20, 1, 4}, {16, 1, 4}, {1, 1, 2}, {25, 1, 2}, {97, 1, 4}, {57, 1, 4}, {35, 1, 4}, {32, 1, 4}, {74, 1, 4},
            {40, 1, 4}, {56, 1, 4}, {26, 1, 4}};
        for (int[] d : due4) {
            WalkingOrchard o = Due.laid("l003000;t0,1,2,1,0;");
            o.dig(5);
            due.is("26: ditches by " + d[0], o.century(d[0], 1, 1), d[1]);
            due.is("26: what all have by " + d[0], o.century(d[0], 1, 0), d[2]);
        }
        due.is("26: not in a hedge", Due.laid("l003010;t0,1,2,1,0;").century(6, 1, 1), 0);
        due.is("26: not in a brook", Due.laid("l003020;t0,1,2,1,0;").century(6, 1, 1), 0);
        due.is("26: not in a house", Due.laid("l003030;t0,1,2,1,0;").century(6, 1, 1), 0);
        due.is("26: in a field", Due.laid("l003000;t0,1,2,1,0;").century(6, 1, 1), 1);
        due.is("26: of one alone none", Due.laid("l003000;t0,1,2,1;").century(1, 1, 0), 2);
        WalkingOrchard o = Due.laid("l000300;t0,3,2,5,4;");
        o.leave(0);
        due.is("26: not where one is left behind", o.century(6, 1, 1), 0);
        // By 8058 the second DRAW is 0; the first one is of cell 3 (of 5), in which there is a house.
        o = Due.laid("l00030;t0,1,1,2;");
        due.is("26: ahead of a DRAW of 0", o.century(8058, 1, 1), 0);
        due.is("26: a DRAW of 0", o.century(8058, 2, 1), 1);
        due.is("26: a DRAW of 0 in a hedge", Due.laid("l10030;t0,1,1,2;").century(8058, 2, 1), 0);
    }

    private static void centuryByYears() {
        // By 9999 a ditch is dug in 4 (of 5) ahead of the 58th, filled ahead of the 59th (0 the first).
        WalkingOrchard o = Due.laid("l00330;t0,1,3,1,0;");
        due.is("26: the highest, 59 years", o.century(9999, 59, 1), 1);
        due.is("26: the highest, 60 years", o.century(9999, 60, 1), 0);
        due.all("26: not more of them", Due.BAD, o.century(9999, 61, 1), o.century(10000, 60, 1));
        due.is("26: the lowest, 1 year", o.century(0, 1, 0), 6);
        due.all("26: not fewer of them", Due.BAD, o.century(0, 0, 0), o.century(-1, 1, 0));
        due.is("26: nothing changes by it", o.count(4), 2);
        o = Due.laid("l00330;t0,1,3,1,0;");
        o.pass(20);
        due.is("26: with what all have", o.century(0, 1, 0), 126);
        due.is("26: k is 0 in any year", o.century(9999, 60, 1), 0);
        due.is("26: k is 0 in any year", o.century(9999, 59, 1), 1);
    }

    private static void keep() {
        WalkingOrchard o = Due.laid("l0000;t0,1,0,0;");
        due.is("27: one", o.keep(), 1);
        o.pass(1);
        due.is("27: two", o.keep(), 2);
        o.pass(1);
        due.is("27: no third", o.keep(), Due.FULL);
        due.is("27: as kept last, not by the third", o.back(), 1);
        due.is("27: the year", o.count(3), 1);
        due.is("27: there is room", o.keep(), 2);
        due.is("27: no third", o.keep(), Due.FULL);
        due.is("27: the second", o.back(), 1);
        due.is("27: the first", o.back(), 0);
        due.is("27: as kept first", o.count(3), 0);
    }

    private static void back() {
        WalkingOrchard o = Due.laid("l0000;t0,1,1,1,0;");
        due.is("28: nothing is kept", o.back(), Due.NO);
        o.pass(1);
        due.is("28: nothing is kept, and nothing changes", o.back(), Due.NO);
        due.is("28: what was done can be undone", o.count(9), 1);
        o.keep();
        due.is("28: by keep, too", o.count(9), 1);
        o.dig(0);
        due.is("28: the only one", o.back(), 0);
        due.is("28: nothing can be undone", o.undo(), Due.NO);
        due.is("28: no ditch", o.count(6), 0);
        due.is("28: no more are kept", o.back(), Due.NO);
        o = Due.laid("l0000;t0,1,1,1,0;");
        Calls.run(o, "keep()", "write(120)", "see(0, 1, 0)", "see(0, 2, 1)", "leave(0)", "dig(3)", "pass(20)");
        due.is("28: as kept", o.back(), 0);
        due.counts("28: all but what is seen and the text", o, 4, 4, 1, 0, 2, 0, 0, 0, 2, 0, 0, 18);
        due.is("28: what is seen", o.fits(0, 0), 7);
        due.is("28: the text", o.fault(), 17);
        Calls.run(o, "keep()", "forget()", "wipe()", "back()");
        due.is("28: nor does it come back", o.count(8), 0);
        due.is("28: nor the text", o.count(11), 0);
    }

    private static void count() {
        due.counts("29: the least", Due.laid("l0;t0,0,0,0;"), 1, 1, 1, 0, 1, 0, 0, 0, 0, 0, 0, 12);
        String text = WIDEST + "t0,1,1,3,2,1,0;t0,1,2,9,8,7,6;t0,1,3,15,14,13,12;";
        WalkingOrchard o = Due.laid(text);
        due.counts("29: the most trees", o, 36, 6, 3, 0, 12, 0, 0, 0, 0, 0, 0, text.length());
        for (int x = 0; x < 36; x++) {
            o.dig(x);
        }
        due.counts("29: ditches in all else", o, 36, 6, 3, 0, 12, 0, 24, 0, 0, 8, 0, text.length());
        for (int r = 0; r < 3; r++) {
            Calls.run(o, "leave(" + r + ")", "leave(" + r + ")", "leave(" + r + ")", "keep()", "see(0, 0, 0)",
                "see(0, 0, 0)");
        }
        o.pass(20);
        // Each stays, the second one between the others.
        due.counts("29: the most of all", o, 36, 6, 3, 20, 3, 9, 24, 20 * (1 + 2 + 3 + 3), 6, 8, 2, text.length());
        due.all("29: no more", Due.BAD, o.count(12), o.count(-1));
    }
}
