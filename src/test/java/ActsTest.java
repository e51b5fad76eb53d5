/** Promises 10 to 14: years, ditches, trees left behind, and what is undone of them. */
public final class ActsTest {
    private static final Due due = new Due();

    public static void main(String[] args) {
        pass();
        ways();
        kinds();
        order();
        hedges();
        bearing();
        dig();
        fill();
        leave();
        undo();
        undoOfEach();
        due.end("ActsTest");
    }

    /** Where the first tree of row 0 is in each of the years to come. */
    private static void course(String what, WalkingOrchard o, int... cells) {
        for (int i = 0; i < cells.length; i++) {
            o.pass(1);
            due.is(what + ", year " + (i + 1), o.tree(0, 0), cells[i]);
        }
    }

    private static void pass() {
        WalkingOrchard o = new WalkingOrchard();
        due.is("10: pass(1)", o.pass(1), 1);
        due.is("10: pass(20)", o.pass(20), 21);
        due.is("10: pass(5)", o.pass(5), 26);
        due.is("10: the year", o.count(3), 26);
        due.all("10: wrong", Due.BAD, o.pass(0), o.pass(21), o.pass(-1));
        for (int far : Due.FAR_OUT) {
            due.is("10: pass(" + far + ")", o.pass(far), Due.BAD);
        }
        due.is("10: nothing changed", o.count(3), 26);
        due.is("10: nor what can be undone", o.count(9), 3);
        WalkingOrchard one = new WalkingOrchard();
        WalkingOrchard many = new WalkingOrchard();
        many.pass(13);
        for (int i = 0; i < 13; i++) {
            one.pass(1);
        }
        for (int r = 0; r < 3; r++) {
            due.is("10: at one time as one by one, row " + r, many.tree(r, 0), one.tree(r, 0));
        }
        due.is("10: at one time as one by one", many.count(7), one.count(7));
    }

    private static void ways() {
        course("10: round by the right", Due.laid("l0000;l0000;l0000;t0,1,1,0;"), 1, 2, 3, 7, 11, 10, 9, 8, 4, 0, 1);
        course("10: round by the left", Due.laid("l0000;l0000;l0000;t1,3,1,3;"), 2, 1, 0, 4, 8, 9, 10, 11, 7, 3, 2);
        course("10: right ahead of left", Due.laid("l000;t0,0,1,1;"), 2);
        course("10: left ahead of right", Due.laid("l000;t1,0,1,1;"), 0);
        course("10: left where right is shut", Due.laid("l003;t0,0,1,1;"), 0);
        course("10: right where left is shut", Due.laid("l300;t1,0,1,1;"), 2);
        course("10: behind 3 comes 0", Due.laid("l0;l0;t0,3,1,1;"), 0);
        course("10: ahead of 0 comes 3", Due.laid("l00;t1,0,1,1;"), 0);
        course("10: never the way back", Due.laid("l00;t0,1,1,1;"), 1, 1, 1);
        course("10: straight ahead of all", Due.laid("l000;l000;l000;t1,2,1,4;"), 7);
        course("10: one of four", Due.laid("l00;l00;t0,1,1,0,1,3,2;"), 0, 0);
        course("10: one of three", Due.laid("l00;l00;t0,1,1,0,2,3;"), 1, 3, 2, 0, 1);
        WalkingOrchard o = Due.laid("l000;l000;t0,1,1,1,0,3;");
        o.pass(2);
        due.is("10: it heads south", o.row(0, 1), 2);
        due.is("10: the first", o.tree(0, 0), 5);
        due.is("10: the second", o.tree(0, 1), 2);
        due.is("10: the third", o.tree(0, 2), 1);
        o = Due.laid("l000;t0,1,1,2;");
        o.pass(3);
        due.is("10: a row that stays heads on as it did", o.row(0, 1), 1);
    }

    private static void kinds() {
        course("10: slow", Due.laid("l00000;t2,1,1,0;"), 1, 1, 2, 2, 3, 3, 4, 4, 4);
        course("10: bold in brooks", Due.laid("l0220;t3,1,1,0;"), 1, 2, 3, 3);
        course("10: plain not in brooks", Due.laid("l0220;t0,1,1,0;"), 0, 0);
        course("10: left not in brooks", Due.laid("l0220;t1,1,1,0;"), 0, 0);
        course("10: slow not in brooks", Due.laid("l0220;t2,1,1,0;"), 0, 0, 0);
        course("10: bold not in houses", Due.laid("l0320;t3,1,1,0;"), 0, 0);
        course("10: all in hedges", Due.laid("l0110;t0,1,1,0;"), 1, 2, 3);
        course("10: slow turns to the right", Due.laid("l000;t2,0,1,1;"), 2);
        course("10: bold turns to the right", Due.laid("l000;t3,0,1,1;"), 2);
    }

    private static void order() {
        WalkingOrchard o = Due.laid("l000;t0,1,0,0;t0,3,0,2;");
        o.pass(1);
        due.is("10: row 0 first", o.tree(0, 0), 1);
        due.is("10: row 1 finds it there", o.tree(1, 0), 2);
        o = Due.laid("l000;t0,3,0,2;t0,1,0,0;");
        o.pass(1);
        due.is("10: row 0 first", o.tree(0, 0), 1);
        due.is("10: row 1 finds it there", o.tree(1, 0), 0);
        // Row 1 follows into the cell that row 0 has left in the same year; not the other way round.
        o = Due.laid("l0000;t0,1,0,1;t0,1,0,0;");
        o.pass(1);
        due.is("10: row 1 follows", o.tree(1, 0), 1);
        o = Due.laid("l0000;t0,1,0,0;t0,1,0,1;");
        o.pass(1);
        due.is("10: row 0 waits", o.tree(0, 0), 0);
        due.is("10: row 1 goes", o.tree(1, 0), 2);
    }

    private static void hedges() {
        WalkingOrchard o = Due.laid("l0110;o1,1,2;o2,2,3;t0,1,0,0;");
        o.pass(1);
        due.is("10: a hedge", o.has(2), 1);
        due.is("10: not yet the other", o.has(3), 0);
        o.pass(1);
        due.is("10: once", o.has(2), 1);
        due.is("10: the other hedge", o.has(3), 1);
        o.pass(2);
        due.is("10: all", o.count(7), 2);
        // Only as the first tree goes there: those behind it bring nothing, nor does who stays.
        o = Due.laid("l0001;o3,3,1;t0,1,0,2,1,0;");
        o.pass(4);
        due.is("10: the first alone, once", o.has(1), 1);
        o = Due.laid("l10;o0,0,1;t0,3,0,0;");
        o.pass(3);
        due.is("10: none where it stood at first", o.has(1), 0);
        o = Due.laid("l01;o0,0,1;o1,1,3;t0,1,4,0;");
        o.pass(1);
        due.is("10: the hedge's owner has it, and what is borne there", o.has(3), 5);
        due.is("10: not that of the cell it came from", o.has(1), 0);
    }

    private static int all(String text, int years) {
        WalkingOrchard o = Due.laid(text);
        o.pass(years);
        return o.count(7);
    }

    private static void bearing() {
        due.is("10: each tree bears", all("l00;t0,1,3,1,0;", 1), 6);
        due.is("10: in each year", all("l00;t0,1,3,1,0;", 7), 42);
        due.is("10: a slow one in uneven years, too", all("l000;t2,1,2,0;", 2), 4);
        due.is("10: beside one another in a line", all("l00;t0,0,0,0;t0,0,0,1;", 1), 2);
        due.is("10: beside one another in a column", all("l0;l0;t0,0,1,0;t0,0,1,1;", 1), 4);
        due.is("10: not askew", all("l03;l30;t0,0,1,0;t0,0,1,3;", 1), 2);
        due.is("10: not from a line's end to the next line", all("l30;l03;t0,0,1,1;t0,0,1,2;", 1), 2);
        due.is("10: beside two, 1 more alone", all("l000;t0,0,0,0;t0,0,0,1;t0,0,0,2;", 1), 3);
        due.is("10: beside two trees of one row, 1 more alone", all("l00;l00;t0,0,0,0;t0,0,0,1,3,2;", 1), 3);
        due.is("10: behind all of them: parted", all("l0000;t0,3,1,1;t0,1,2,2;", 1), 3);
        due.is("10: behind all of them: come together", all("l0000;t0,1,1,0;t0,3,2,3;", 1), 5);
        WalkingOrchard o = Due.laid("l0000;o0,0,1;o1,1,2;o2,2,3;t0,1,4,1,0;");
        o.pass(1);
        int[] has = {0, 0, 4, 4};
        for (int p = 0; p < 4; p++) {
            due.is("10: where it has gone, owner " + p, o.has(p), has[p]);
        }
        o = Due.laid("l00;l03;t0,1,1,1,0;t0,3,1,2;");
        o.pass(1);
        due.is("10: with a tree beside", o.count(7), 5);
        o.leave(0);
        o.pass(1);
        due.is("10: one left behind bears nothing and is of no row", o.count(7), 7);
    }

    private static void dig() {
        WalkingOrchard o = Due.laid("l0123;l0000;t0,1,1,4;");
        due.is("11: dig(0)", o.dig(0), 1);
        due.is("11: there is one", o.dig(0), Due.NO);
        due.is("11: a hedge", o.dig(1), Due.NO);
        due.is("11: a brook", o.dig(2), Due.NO);
        due.is("11: a house", o.dig(3), Due.NO);
        due.is("11: a tree", o.dig(4), Due.NO);
        due.is("11: dig(5)", o.dig(5), 2);
        due.is("11: dig(7)", o.dig(7), 3);
        due.all("11: wrong", Due.BAD, o.dig(-1), o.dig(8));
        for (int far : Due.FAR_OUT) {
            due.is("11: dig(" + far + ")", o.dig(far), Due.BAD);
        }
        due.is("11: how many", o.count(6), 3);
        due.is("11: what can be undone", o.count(9), 3);
        due.is("11: the row cannot go", o.row(0, 4), Due.NONE);
        o.pass(2);
        due.is("11: it stays", o.tree(0, 0), 4);
        o.fill(5);
        o.pass(1);
        due.is("11: it goes", o.tree(0, 0), 5);
        due.is("11: it has left 4", o.dig(4), 3);
        o = Due.laid("l00;t0,1,1,1,0;");
        o.leave(0);
        due.is("11: a tree left behind", o.dig(0), Due.NO);
        o = Due.laid("l022;t3,1,0,0;");
        o.pass(1);
        due.is("11: a brook with a tree", o.dig(1), Due.NO);
        due.is("11: the field behind it", o.dig(0), 1);
    }

    private static void fill() {
        WalkingOrchard o = Due.laid("l0001;t0,1,1,0;");
        due.is("12: there is none", o.fill(1), Due.NO);
        o.dig(1);
        o.dig(2);
        due.is("12: none in a hedge", o.fill(3), Due.NO);
        due.is("12: none under a tree", o.fill(0), Due.NO);
        due.is("12: fill(1)", o.fill(1), 1);
        due.is("12: it is filled", o.fill(1), Due.NO);
        due.is("12: its cell", o.cell(1, 2), 0);
        due.is("12: the other one", o.cell(2, 2), 1);
        due.all("12: wrong", Due.BAD, o.fill(-1), o.fill(4));
        for (int far : Due.FAR_OUT) {
            due.is("12: fill(" + far + ")", o.fill(far), Due.BAD);
        }
        due.is("12: what can be undone", o.count(9), 3);
        due.is("12: fill(2)", o.fill(2), 0);
        due.is("12: dug again", o.dig(1), 1);
    }

    private static void leave() {
        WalkingOrchard o = Due.laid("l0000;l0300;t0,1,1,3,2,1,0;t0,0,1,4;");
        due.is("13: the last one", o.leave(0), 0);
        due.is("13: then the one ahead of it", o.leave(0), 1);
        due.is("13: trees of rows", o.count(4), 3);
        due.is("13: left behind", o.count(5), 2);
        due.is("13: the row's", o.row(0, 3), 2);
        due.is("13: of no row", o.cell(0, 3), 9);
        due.is("13: the first stays", o.tree(0, 0), 3);
        due.is("13: and the next", o.leave(0), 2);
        due.is("13: one alone", o.leave(0), Due.NO);
        due.is("13: one alone at first", o.leave(1), Due.NO);
        due.all("13: wrong", Due.BAD, o.leave(-1), o.leave(2), o.leave(3));
        for (int far : Due.FAR_OUT) {
            due.is("13: leave(" + far + ")", o.leave(far), Due.BAD);
        }
        due.is("13: what can be undone", o.count(9), 3);
        o.pass(4);
        due.is("13: they go nowhere", o.cell(0, 3), 9);
        due.is("13: row 1 cannot go where one stands", o.tree(1, 0), 4);
        o = Due.laid("l000;t1,0,1,1,0;");
        due.is("13: left behind in 0", o.leave(0), 0);
        o.pass(1);
        due.is("13: not where its own one was left behind", o.tree(0, 0), 2);
        o = Due.laid("l0000;l0000;t0,1,2,1,0,4;o1,3,1;");
        o.pass(1);
        due.is("13: where the last one is now", o.leave(0), 0);
        o.pass(1);
        due.is("13: the others go on", o.tree(0, 1), 2);
        due.is("13: as many", o.row(0, 3), 2);
    }

    private static void undo() {
        WalkingOrchard o = new WalkingOrchard();
        due.is("14: nothing", o.undo(), Due.NO);
        for (int n = 1; n <= 10; n++) {
            o.pass(n);
            due.is("14: how many can be", o.count(9), Math.min(n, 8));
        }
        int year = 55;
        for (int n = 10; n > 2; n--) {
            due.is("14: undo", o.undo(), n - 3);
            year -= n;
            due.is("14: all that went by at one time", o.count(3), year);
        }
        due.is("14: no more than 8", o.undo(), Due.NO);
        due.is("14: the year", o.count(3), 3);
        o.pass(1);
        due.is("14: once more", o.undo(), 0);
        due.is("14: the year", o.count(3), 3);
        o.dig(-1);
        o.dig(9);
        o.fill(0);
        o.leave(2);
        o.leave(7);
        o.pass(0);
        o.see(0, 0, 0);
        o.keep();
        o.century(1, 1, 1);
        o.best(0, 1, 0);
        due.is("14: what was not done is not undone", o.undo(), Due.NO);
        due.is("14: what is kept stays", o.count(10), 1);
        due.is("14: what is seen stays", o.count(8), 1);
        o.pass(1);
        o.undo();
        due.is("14: what is kept stays by undo", o.count(10), 1);
        due.is("14: what is seen stays by undo", o.count(8), 1);
    }

    private static void undoOfEach() {
        WalkingOrchard o = Due.laid("l0010;l0000;o2,2,2;o4,7,1;t0,1,3,1,0;t1,2,1,5;");
        o.dig(7);
        o.pass(1);
        due.is("14: it went", o.tree(0, 0), 2);
        due.is("14: owner 2", o.has(2), 5);
        due.is("14: owner 1", o.has(1), 2);
        o.leave(0);
        o.fill(7);
        o.dig(3);
        due.is("14: ditches", o.count(6), 1);
        due.is("14: of dig", o.undo(), 4);
        due.is("14: the ditch", o.cell(3, 2), 0);
        due.is("14: of fill", o.undo(), 3);
        due.is("14: the ditch", o.cell(7, 2), 1);
        due.is("14: of leave", o.undo(), 2);
        due.is("14: the tree", o.tree(0, 1), 1);
        due.is("14: none left behind", o.count(5), 0);
        due.is("14: the tree's row", o.cell(1, 3), 0);
        due.is("14: of pass", o.undo(), 1);
        due.is("14: the year", o.count(3), 0);
        due.is("14: the first tree", o.tree(0, 0), 1);
        due.is("14: the other one", o.tree(0, 1), 0);
        due.is("14: how it heads", o.row(1, 1), 2);
        due.is("14: nobody has anything", o.count(7), 0);
        due.is("14: of dig", o.undo(), 0);
        due.is("14: no ditch", o.count(6), 0);
        due.is("14: nothing more", o.undo(), Due.NO);
        o = Due.laid("l00;l00;t0,0,1,0;t1,0,0,3,2;");
        o.pass(1);
        due.is("14: row 0 has turned", o.row(0, 1), 1);
        o.undo();
        due.is("14: it heads as it did", o.row(0, 1), 0);
        due.is("14: so does row 1", o.row(1, 1), 0);
        o = Due.laid("l0010;l0000;t0,1,3,1;t1,2,1,5,4;");
        o.pass(2);
        o.dig(0);
        o.undo();
        o.leave(1);
        due.is("14: of what came behind what was undone", o.undo(), 1);
        due.is("14: the year", o.count(3), 2);
        due.is("14: of pass", o.undo(), 0);
        due.is("14: the year", o.count(3), 0);
    }
}
