/** Promises 25 to 29: frost, centuries, what is kept, counts. */
public final class FrostTest {
    private static final Due due = new Due();

    public static void main(String[] args) {
        frost();
        frostOfOneRow();
        frostWrong();
        century();
        centuryOfRows();
        centuryWrong();
        keep();
        back();
        whatStays();
        count();
        due.end("FrostTest");
    }

    private static void chance(String what, WalkingOrchard o, int cell, int n, int x, int above, int below) {
        due.is("25: " + what + ", above", o.frost(0, cell, n, x, 0), above);
        due.is("25: " + what + ", below", o.frost(0, cell, n, x, 1), below);
    }

    private static void frost() {
        WalkingOrchard o = Due.laid("l0000;t0,1,0,0;");
        chance("no year, there", o, 0, 0, 5, 1, 1);
        chance("no year, elsewhere", o, 1, 0, 5, 0, 1);
        chance("a year, stays", o, 0, 1, 3, 3, 10);
        chance("a year, goes", o, 1, 1, 3, 7, 10);
        chance("a year, too far", o, 2, 1, 3, 0, 1);
        chance("lowest terms by 2", o, 0, 1, 4, 2, 5);
        chance("lowest terms by 5", o, 0, 1, 5, 1, 2);
        chance("two years, stays", o, 0, 2, 3, 9, 100);
        chance("two years, one of them", o, 1, 2, 3, 21, 50);
        chance("two years, goes", o, 2, 2, 3, 49, 100);
        chance("never", o, 3, 3, 0, 1, 1);
        chance("never, elsewhere", o, 0, 3, 0, 0, 1);
        chance("always", o, 0, 8, 10, 1, 1);
        chance("always, elsewhere", o, 1, 8, 10, 0, 1);
        chance("three or more of eight", o, 3, 8, 5, 219, 256);
        chance("eight of eight", o, 0, 8, 1, 1, 100000000);
        chance("eight of eight by 2", o, 0, 8, 2, 1, 390625);
        chance("the second tree alone", Due.laid("l0000;t0,1,0,1,0;"), 0, 2, 3, 0, 1);
        chance("the second tree, too", Due.laid("l0000;t0,1,0,1,0;"), 1, 2, 3, 9, 100);
        chance("a brook ahead", Due.laid("l02;t0,1,0,0;"), 0, 4, 3, 1, 1);
        o = Due.laid("l0000;t2,1,0,0;");
        chance("a slow one goes in even years", o, 1, 2, 5, 1, 2);
        chance("a slow one, four years", o, 2, 4, 3, 49, 100);
        o.pass(1);
        chance("a slow one from an uneven year", o, 1, 1, 3, 1, 1);
        chance("a slow one from an uneven year", o, 1, 2, 3, 3, 10);
        due.is("25: nothing changes", o.count(3), 1);
        due.is("25: nothing changes", o.tree(0, 0), 1);
    }

    private static void frostOfOneRow() {
        WalkingOrchard o = Due.laid("l0000;t0,1,0,0;t0,3,0,3;");
        // If row 0 stays in the second year, row 1 comes to 1 ahead of it only where 0 stayed at first.
        chance("all else goes on", o, 0, 3, 3, 9, 100);
        chance("and is in the way", o, 1, 3, 3, 91, 100);
        due.is("25: of row 1", o.frost(1, 3, 1, 3, 0), 3);
        due.is("25: of row 1, for itself", o.frost(1, 2, 1, 3, 0), 7);
        o = Due.laid("l00000;t2,1,0,0;t0,1,0,1;");
        chance("a slow one behind another one", o, 1, 1, 3, 0, 1);
    }

    private static void frostWrong() {
        WalkingOrchard o = Due.laid("l0000;t0,1,0,0;");
        due.all("25: wrong", Due.BAD, o.frost(-1, 0, 0, 0, 0), o.frost(1, 0, 0, 0, 0), o.frost(0, -1, 0, 0, 0),
            o.frost(0, 4, 0, 0, 0), o.frost(0, 0, -1, 0, 0), o.frost(0, 0, 9, 0, 0), o.frost(0, 0, 0, -1, 0),
            o.frost(0, 0, 0, 11, 0), o.frost(0, 0, 0, 0, -1), o.frost(0, 0, 0, 0, 2));
        for (int far : Due.FAR_OUT) {
            due.all("25: wrong with " + far, Due.BAD, o.frost(far, 0, 0, 0, 0), o.frost(0, far, 0, 0, 0),
                o.frost(0, 0, far, 0, 0), o.frost(0, 0, 0, far, 0), o.frost(0, 0, 0, 0, far));
        }
    }

    private static void years(String what, WalkingOrchard o, int z, int[] has, int[] ditches) {
        for (int n = 1; n <= has.length; n++) {
            due.is("26: " + what + ", what all have behind " + n, o.century(z, n, 0), has[n - 1]);
            due.is("26: " + what + ", ditches behind " + n, o.century(z, n, 1), ditches[n - 1]);
        }
    }

    /** The draws by z: 0: dig 0, -, leave 1287. 42: dig 1, fill 1, .. of three cells. 72: dig, fill, dig 1. */
    private static void century() {
        years("dig and leave", Due.laid("l000;t0,1,3,2,1;"), 0, new int[] {6, 12, 15}, new int[] {1, 1, 1});
        years("a tree is there", Due.laid("l00;t0,3,3,0,1;"), 0, new int[] {6, 12, 15}, new int[] {0, 0, 0});
        years("a hedge is there", Due.laid("l10;t0,1,3,1;"), 0, new int[] {3, 6, 9}, new int[] {0, 0, 0});
        years("dig and fill", Due.laid("l001;t0,1,1,0;"), 42, new int[] {1, 2, 4}, new int[] {1, 0, 0});
        years("dig where one goes", Due.laid("l000;t0,1,1,0;"), 72, new int[] {1, 2, 3}, new int[] {1, 0, 0});
        years("dig, fill, dig", Due.laid("l000;t0,1,1,2;"), 72, new int[] {1, 2, 3}, new int[] {1, 0, 1});
        years("by the highest z", Due.laid("l00;t0,1,0,1;"), 9999, new int[] {0, 0, 0}, new int[] {0, 0, 1});
        WalkingOrchard o = Due.laid("l000;t0,1,1,0;");
        o.dig(1);
        years("there is a ditch at first", o, 72, new int[] {1, 2, 3}, new int[] {1, 0, 0});
        due.is("26: nothing changes", o.count(6), 1);
        due.is("26: nothing changes", o.count(3), 0);
        due.is("26: nothing changes", o.count(9), 1);
        o = Due.laid("l000;t0,1,3,2,1;");
        o.pass(1);
        years("from now on, by the same draws", o, 0, new int[] {12, 18, 21}, new int[] {1, 1, 1});
        due.is("26: none is left behind", o.row(0, 3), 2);
        // By z = 14 nothing is dug, filled or left behind ahead of the first three years.
        o = Due.laid("l0010;t2,1,1,0;");
        o.pass(1);
        years("a slow one from an uneven year", o, 14, new int[] {2, 4, 5}, new int[] {0, 0, 0});
    }

    /** The draw of z = 25 ahead of year 0: the last tree of row 3867 modulo how many is left behind. */
    private static void centuryOfRows() {
        WalkingOrchard o = Due.laid("l0000;t0,3,1,0,1;t0,1,5,3,2;");
        due.is("26: ahead of the year, of row 1", o.century(25, 1, 0), 7);
        o = Due.laid("l0000;l3333;l0003;t0,3,1,0,1;t0,1,5,3,2;t0,1,9,10,9,8;");
        due.is("26: ahead of the year, of row 0 of three", o.century(25, 1, 0), 1 + 10 + 27);
        o = Due.laid("l000000;t0,3,1,0,1;t0,1,5,5;");
        due.is("26: of one alone none", o.century(25, 1, 0), 7);
    }

    private static void centuryWrong() {
        WalkingOrchard o = new WalkingOrchard();
        due.is("26: 60 years", o.century(5, 60, 0), 881);
        due.is("26: 60 years, ditches", o.century(5, 60, 1), 8);
        due.all("26: wrong", Due.BAD, o.century(-1, 1, 0), o.century(10000, 1, 0), o.century(0, 0, 0),
            o.century(0, 61, 0), o.century(0, 1, -1), o.century(0, 1, 2));
        for (int far : Due.FAR_OUT) {
            due.all("26: wrong with " + far, Due.BAD, o.century(0, far, 0), o.century(0, 1, far));
            if (far < 0 || far > 9999) {
                due.is("26: wrong with z " + far, o.century(far, 1, 0), Due.BAD);
            }
        }
    }

    private static void keep() {
        WalkingOrchard o = new WalkingOrchard();
        due.is("27: the first", o.keep(), 1);
        due.is("27: the second", o.keep(), 2);
        due.is("27: a third", o.keep(), Due.FULL);
        due.is("27: how many", o.count(10), 2);
        due.is("27: it cannot be undone", o.undo(), Due.NO);
        o.pass(1);
        due.is("27: acts let it stay", o.count(10), 2);
        due.is("27: what was done can still be undone", o.undo(), 0);
        due.is("27: undo lets it stay", o.count(10), 2);
        o.back();
        due.is("27: there is room again", o.keep(), 2);
    }

    private static void back() {
        WalkingOrchard o = Due.laid("l0010;l0000;o2,2,2;t0,1,3,1,0;t1,2,1,5;");
        due.is("28: nothing is kept", o.back(), Due.NO);
        o.dig(7);
        o.pass(1);
        due.is("28: keep", o.keep(), 1);
        o.leave(0);
        o.fill(7);
        o.pass(3);
        due.is("28: keep", o.keep(), 2);
        o.pass(20);
        o.dig(0);
        o.write('x');
        o.see(1, 1, 1);
        due.is("28: what can be undone ahead of it", o.count(9), 7);
        due.is("28: as kept last", o.back(), 1);
        due.is("28: the year", o.count(3), 4);
        due.is("28: left behind", o.count(5), 1);
        due.is("28: ditches", o.count(6), 0);
        due.is("28: nothing can be undone", o.undo(), Due.NO);
        due.is("28: the text stays", o.count(11), 40);
        due.is("28: what is seen stays", o.count(8), 1);
        o.pass(2);
        due.is("28: as kept first", o.back(), 0);
        due.is("28: the year", o.count(3), 1);
        due.is("28: none left behind", o.count(5), 0);
        due.is("28: the ditch", o.cell(7, 2), 1);
        due.is("28: the trees", o.tree(0, 0), 2);
        due.is("28: the trees", o.tree(0, 1), 1);
        due.is("28: how row 1 heads", o.row(1, 1), 1);
        due.is("28: what all have", o.count(7), 10);
        due.is("28: nothing can be undone", o.count(9), 0);
        due.is("28: nothing more is kept", o.back(), Due.NO);
        due.is("28: it goes on from there", o.pass(1), 2);
        due.is("28: which can be undone", o.undo(), 0);
        o = Due.laid("l0;t0,0,0,0;");
        o.keep();
        o.lay();
        due.is("28: none is kept behind lay", o.back(), Due.NO);
    }

    /** What is seen, can be undone, is kept, and how long the text is: no call touches what is not its own. */
    private static void whatStays() {
        String text = "l000000;o0,5,1;t0,1,1,1,0;";
        String[] calls = {"write(120)", "wipe()", "fault()", "see(0, 1, 1)", "forget()", "keep()", "pass(2)", "dig(5)",
            "fill(4)", "leave(0)", "undo()", "back()", "lay()"};
        int l = text.length();
        int[][] counts = {{1, 2, 1, l + 1}, {1, 2, 1, 0}, {1, 2, 1, l}, {2, 2, 1, l}, {0, 2, 1, l}, {1, 2, 2, l},
            {1, 3, 1, l}, {1, 3, 1, l}, {1, 3, 1, l}, {1, 3, 1, l}, {1, 1, 1, l}, {1, 0, 0, l}, {0, 0, 0, l}};
        for (int i = 0; i < calls.length; i++) {
            WalkingOrchard o = Due.laid(text);
            Calls.run(o, "pass(1)", "dig(4)", "see(0, 2, 0)", "keep()", calls[i]);
            for (int what = 8; what < 12; what++) {
                due.is("29: count(" + what + ") behind " + calls[i], o.count(what), counts[i][what - 8]);
            }
        }
    }

    private static void count() {
        WalkingOrchard o = Due.laid("l0000;l0030;t0,1,2,2,1,0;t0,0,1,4;");
        o.pass(2);
        o.dig(5);
        o.leave(0);
        o.see(0, 0, 0);
        o.see(0, 0, 1);
        o.keep();
        o.pass(1);
        int[] counts = {8, 4, 2, 3, 3, 1, 1, 23, 2, 4, 1, 34};
        for (int what = 0; what < counts.length; what++) {
            due.is("29: count(" + what + ")", o.count(what), counts[what]);
        }
        due.all("29: wrong", Due.BAD, o.count(-1), o.count(12));
        for (int far : Due.FAR_OUT) {
            due.is("29: count(" + far + ")", o.count(far), Due.BAD);
        }
    }
}
