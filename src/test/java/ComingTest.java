/** Promises 15 to 21: what comes, nothing else being done, and by which ditches. */
public final class ComingTest {
    private static final String RING = "l0000;l0000;l0000;o3,3,1;t0,1,2,0;";
    private static final int[] ROUND = {0, 1, 2, 3, 7, 11, 10, 9, 8, 4};

    private static final Due due = new Due();

    public static void main(String[] args) {
        behind();
        wealth();
        comes();
        meet();
        again();
        ditches();
        ditchesThatCannotBe();
        ditchesOfSeveral();
        best();
        nothingChanges();
        due.end("ComingTest");
    }

    private static void behind() {
        WalkingOrchard o = Due.laid(RING);
        for (int n = 0; n <= 60; n++) {
            due.is("15: behind(" + n + ", 0)", o.behind(n, 0), ROUND[n % 10]);
        }
        o.pass(3);
        due.is("15: from now on", o.behind(0, 0), 3);
        due.is("15: from now on", o.behind(2, 0), 11);
        due.all("15: wrong", Due.BAD, o.behind(-1, 0), o.behind(61, 0), o.behind(0, -1), o.behind(0, 1));
        for (int far : Due.FAR_OUT) {
            due.all("15: wrong with " + far, Due.BAD, o.behind(far, 0), o.behind(1, far));
        }
        o = Due.laid("l00000;t2,1,1,0;t0,3,1,4;");
        due.is("15: of a slow one from an even year", o.behind(1, 0), 1);
        due.is("15: of row 1", o.behind(1, 1), 3);
        o.pass(1);
        due.is("15: of a slow one from an uneven year", o.behind(1, 0), 1);
        due.is("15: of row 1", o.behind(1, 1), 2);
        o.dig(2);
        due.is("15: with a ditch", o.behind(1, 1), 3);
    }

    private static void wealth() {
        WalkingOrchard o = Due.laid(RING);
        due.all("16: owner 1, not yet", 0, o.wealth(0, 1), o.wealth(1, 1), o.wealth(2, 1));
        due.all("16: owner 1, once", 2, o.wealth(3, 1), o.wealth(4, 1), o.wealth(12, 1));
        due.is("16: owner 1, twice", o.wealth(13, 1), 4);
        due.is("16: owner 0", o.wealth(60, 0), 108);
        due.is("16: owner 1", o.wealth(60, 1), 12);
        o.pass(3);
        due.is("16: what it has now is with it", o.wealth(0, 1), 2);
        due.is("16: and what comes", o.wealth(10, 1), 4);
        due.all("16: others", 0, o.wealth(60, 2), o.wealth(60, 3));
        due.all("16: wrong", Due.BAD, o.wealth(-1, 0), o.wealth(61, 0), o.wealth(0, -1), o.wealth(0, 4));
        for (int far : Due.FAR_OUT) {
            due.all("16: wrong with " + far, Due.BAD, o.wealth(far, 0), o.wealth(1, far));
        }
        due.is("16: a hedge", Due.laid("l01;o1,1,3;t0,1,0,0;").wealth(9, 3), 1);
    }

    private static void comes() {
        WalkingOrchard o = Due.laid(RING);
        for (int n = 0; n < 10; n++) {
            due.is("17: comes(0, " + ROUND[n] + ")", o.comes(0, ROUND[n]), n);
        }
        due.all("17: never", Due.NONE, o.comes(0, 5), o.comes(0, 6));
        due.all("17: wrong", Due.BAD, o.comes(-1, 0), o.comes(1, 0), o.comes(0, -1), o.comes(0, 12));
        for (int far : Due.FAR_OUT) {
            due.all("17: wrong with " + far, Due.BAD, o.comes(far, 0), o.comes(0, far));
        }
        o = Due.laid("l0000;t0,1,0,1,0;");
        due.is("17: the first tree alone", o.comes(0, 0), Due.NONE);
        o = Due.laid("l300200;l101000;l000000;l020010;l000000;t1,0,8,7;t1,2,1,13,14;t0,2,5,6;");
        due.is("17: behind 60", o.comes(0, 6), 60);
        o = Due.laid("l0000;l0000;l0000;l0100;l0000;l0301;t2,3,0,3,2;t0,1,7,10;t2,2,6,1,0,4,8;");
        due.is("17: not behind 61", o.comes(2, 18), Due.NONE);
        o.pass(1);
        due.is("17: but a year on", o.comes(2, 18), 60);
    }

    private static void meet() {
        WalkingOrchard o = Due.laid("l00000;t0,1,1,0;t0,3,1,4;t0,3,1,3;");
        due.is("18: row 0 and 2", o.meet(0, 2), 1);
        due.is("18: the other way round", o.meet(2, 0), 1);
        due.is("18: now", o.meet(1, 2), 0);
        due.is("18: parted by row 2", o.meet(0, 1), Due.NONE);
        due.all("18: alike", Due.BAD, o.meet(0, 0), o.meet(1, 1), o.meet(2, 2));
        due.all("18: wrong", Due.BAD, o.meet(-1, 0), o.meet(0, -1), o.meet(3, 0), o.meet(0, 3), o.meet(3, 3));
        for (int far : Due.FAR_OUT) {
            due.all("18: wrong with " + far, Due.BAD, o.meet(far, 0), o.meet(0, far), o.meet(far, far));
        }
        o = Due.laid("l000;l033;t0,1,1,2,1,0;t0,2,1,3;");
        due.is("18: any tree of it", o.meet(0, 1), 0);
        due.is("18: any tree of the other", o.meet(1, 0), 0);
        o.leave(0);
        due.is("18: but none that was left behind", o.meet(0, 1), Due.NONE);
        o = Due.laid("l03;l30;t0,0,1,0;t0,0,1,3;");
        due.is("18: not askew", o.meet(0, 1), Due.NONE);
        o = Due.laid("l001000;l003020;l000010;l000012;l010003;t3,3,1,7,13;t2,2,6,25,19,20,21;t2,1,0,24;");
        due.is("18: behind 60", o.meet(0, 2), 60);
        o = Due.laid("l00100;l20000;l20002;l10020;l00100;l10000;t2,0,3,26;t2,0,6,24,29,28,23;t3,3,1,3,2;");
        due.is("18: not behind 61", o.meet(0, 1), Due.NONE);
        o.pass(1);
        due.is("18: but a year on", o.meet(0, 1), 60);
    }

    private static void again() {
        WalkingOrchard o = Due.laid(RING);
        due.is("19: in 0 again, but heading north", o.again(), Due.NONE);
        o.pass(1);
        due.is("19: round", o.again(), 10);
        due.is("19: who stays, at once", Due.laid("l0;t0,0,1,0;").again(), 1);
        due.is("19: a slow one that stays", Due.laid("l0;t2,0,1,0;").again(), 2);
        o = Due.laid("l0;t2,0,1,0;");
        o.pass(1);
        due.is("19: in an uneven year, too", o.again(), 2);
        o = Due.laid("l0000;l0000;l0000;t2,1,2,0;");
        o.pass(2);
        due.is("19: a slow one, round", o.again(), 20);
        o = Due.laid("l00;l00;t0,1,1,0,2,3;");
        due.is("19: not the same heading", o.again(), Due.NONE);
        o.pass(1);
        due.is("19: each tree where it is", o.again(), 4);
        o = Due.laid("l000;l000;t0,1,1,1,4;");
        due.is("19: the first tree behind 6, but never the second", o.again(), Due.NONE);
        o.pass(1);
        due.is("19: both", o.again(), 6);
        // Behind 9 the first is in 1 and the second in 0: the same cells, not the same trees.
        o = Due.laid("l003;l033;l003;l003;t0,1,1,0,1;");
        due.is("19: each tree in its own", o.again(), Due.NONE);
        o.pass(9);
        due.all("19: the other way round", 1, o.tree(0, 0), o.row(0, 1), o.again());
        due.is("19: slow is the first of two", Due.laid("l030;t2,0,1,0;t0,0,1,2;").again(), 2);
        due.is("19: slow is the last of two", Due.laid("l030;t0,0,1,0;t2,0,1,2;").again(), 2);
        due.is("19: none is slow", Due.laid("l030;t0,0,1,0;t1,0,1,2;").again(), 1);
        o = Due.laid("l003000;l003000;t0,1,0,0;t0,1,0,3;");
        o.pass(4);
        due.is("19: all rows", o.again(), 12);
        o = Due.laid("l00000;l00000;l00001;l00000;l00000;l20010;t1,1,0,6;t2,2,1,20,15;t0,2,7,16,17;");
        for (int i = 0; i < 10; i++) {
            o.pass(20);
        }
        due.is("19: behind 200", o.again(), 200);
        o = Due.laid("l0001;l1000;l0000;l0010;l2001;t0,1,7,8,12;t2,1,4,5,1;t0,3,9,19,15;");
        for (int i = 0; i < 20; i++) {
            o.pass(20);
        }
        due.is("19: not behind 202", o.again(), Due.NONE);
        int now = o.tree(1, 0);
        due.is("19: but it is there then", o.behind(0, 1), now);
    }

    private static void asked(String what, WalkingOrchard o, int r, int x, int n, int... cells) {
        due.is("20: " + what + ", how many", o.ditches(r, x, n, -1), cells.length);
        for (int k = 0; k < 2; k++) {
            due.is("20: " + what + ", number " + k, o.ditches(r, x, n, k), k < cells.length ? cells[k] : Due.NONE);
        }
    }

    private static void askedNone(String what, WalkingOrchard o, int r, int x, int n) {
        due.all("20: " + what, Due.NONE, o.ditches(r, x, n, -1), o.ditches(r, x, n, 0), o.ditches(r, x, n, 1));
    }

    private static void ditches() {
        WalkingOrchard o = Due.laid("l000;l000;t0,1,0,0;");
        asked("none needed", o, 0, 1, 1);
        asked("one", o, 0, 3, 1, 1);
        asked("two, to stay", o, 0, 0, 1, 1, 3);
        asked("two, to stay later", o, 0, 1, 2, 2, 4);
        askedNone("not to be had", o, 0, 4, 1);
        asked("behind 20, none", o, 0, 2, 20);
        o.dig(1);
        asked("there is one already", o, 0, 3, 1);
        asked("one more", o, 0, 0, 1, 3);
        due.all("20: wrong", Due.BAD, o.ditches(-1, 0, 1, 0), o.ditches(1, 0, 1, 0), o.ditches(0, -1, 1, 0),
            o.ditches(0, 6, 1, 0), o.ditches(0, 0, 0, 0), o.ditches(0, 0, 21, 0), o.ditches(0, 0, 1, -2),
            o.ditches(0, 0, 1, 2), o.ditches(0, 5, 1, 2), o.ditches(0, 5, 1, -2));
        for (int far : Due.FAR_OUT) {
            due.all("20: wrong with " + far, Due.BAD, o.ditches(far, 0, 1, 0), o.ditches(0, far, 1, 0),
                o.ditches(0, 0, far, 0), o.ditches(0, 0, 1, far));
        }
        o = Due.laid("l00000;t0,1,0,0;t0,3,0,4;");
        asked("of row 1, by one ahead of row 0", o, 1, 2, 2, 1);
        o = Due.laid("l000;l000;t2,1,0,0;");
        o.pass(1);
        askedNone("of a slow one in an uneven year", o, 0, 4, 1);
        asked("of a slow one a year on", o, 0, 4, 2, 2);
        asked("of a slow one, two years on", o, 0, 4, 3, 2);
    }

    private static void ditchesThatCannotBe() {
        askedNone("none in a hedge", Due.laid("l01;t0,1,0,0;"), 0, 0, 1);
        askedNone("none in a brook", Due.laid("l02;t3,1,0,0;"), 0, 0, 1);
        askedNone("none where a tree is now", Due.laid("l001;t0,1,0,0;t0,1,0,1;"), 0, 0, 2);
        asked("but where none is", Due.laid("l000;t0,1,0,0;"), 0, 0, 2, 1);
        WalkingOrchard o = Due.laid("l000;l333;t0,3,0,1,2;");
        asked("in the cell ahead", o, 0, 1, 3, 0);
        asked("in it, for a year", o, 0, 0, 1);
        // 1, 3 and 5 would shut all ways from 4 (it never turns round to 7), 1 and 5 where 3 is a house.
        o = Due.laid("l000;l000;l000;t0,0,0,4;");
        askedNone("three would be wanted", o, 0, 4, 1);
        o = Due.laid("l000;l300;l000;t0,0,0,4;");
        asked("two are enough", o, 0, 4, 1, 1, 5);
    }

    /** All sets are tried by digging, in a land of nine cells, for every cell. */
    private static void ditchesOfSeveral() {
        WalkingOrchard o = Due.laid("l000;l000;l000;t0,1,0,0;");
        asked("of several single ones the lower", o, 0, 3, 5, 2);
        String[] texts = {"l000;l000;l000;t0,1,0,0;", "l000;l000;l010;t1,2,0,4,5;", "l000;l000;l000;t2,1,0,6;"};
        for (String text : texts) {
            for (int n = 3; n < 8; n += 2) {
                eachSet(Due.laid(text), n, text);
            }
        }
    }

    private static void eachSet(WalkingOrchard o, int n, String text) {
        String[] first = new String[9];
        first[o.behind(n, 0)] = "";
        for (int a = 0; a < 9; a++) {
            note(o, first, n, a, a);
        }
        for (int a = 0; a < 9; a++) {
            for (int b = a + 1; b < 9; b++) {
                note(o, first, n, a, b);
            }
        }
        for (int x = 0; x < 9; x++) {
            String what = text + " to " + x + " by " + n;
            if (first[x] == null) {
                askedNone(what, o, 0, x, n);
            } else {
                asked(what, o, 0, x, n, first[x].chars().map(c -> c - '0').toArray());
            }
        }
    }

    private static void note(WalkingOrchard o, String[] first, int n, int a, int b) {
        if (o.dig(a) < 0) {
            return;
        }
        boolean both = a == b || o.dig(b) > 0;
        int x = o.behind(n, 0);
        if (both && first[x] == null) {
            first[x] = a == b ? "" + a : "" + a + b;
        }
        o.undo();
        if (both && a != b) {
            o.undo();
        }
    }

    private static void best() {
        WalkingOrchard o = Due.laid("l000;l000;o3,3,2;t0,1,2,0;");
        due.is("21: which brings row 0 to owner 2", o.best(2, 1, 0), 1);
        due.is("21: how much", o.best(2, 1, 1), 2);
        due.is("21: of several the lowest", o.best(0, 1, 0), 2);
        due.is("21: how much", o.best(0, 1, 1), 2);
        due.is("21: nothing anywhere: the lowest", o.best(1, 1, 0), 1);
        due.is("21: nothing", o.best(1, 1, 1), 0);
        due.is("21: behind 20, which keeps row 0 from owner 2", o.best(0, 20, 0), 3);
        due.is("21: behind 20, how much", o.best(0, 20, 1), 40);
        o.pass(1);
        due.is("21: with what it has", o.best(0, 1, 1), 4);
        due.all("21: wrong", Due.BAD, o.best(-1, 1, 0), o.best(4, 1, 0), o.best(0, 0, 0), o.best(0, 21, 0),
            o.best(0, 1, -1), o.best(0, 1, 2));
        for (int far : Due.FAR_OUT) {
            due.all("21: wrong with " + far, Due.BAD, o.best(far, 1, 0), o.best(0, far, 0), o.best(0, 1, far));
        }
        o = Due.laid("l000;t0,3,1,2;");
        due.is("21: in the first cell", o.best(1, 2, 0), 0);
        o = Due.laid("l1230;t0,0,1,3;");
        due.all("21: nowhere", Due.NONE, o.best(0, 1, 0), o.best(0, 1, 1));
        due.is("21: wrong where it is nowhere", o.best(0, 0, 0), Due.BAD);
        o = Due.laid("l0300;t0,1,1,0;o2,2,1;o3,3,3;");
        o.dig(2);
        due.is("21: not where there is one", o.best(1, 1, 0), 3);
        o = Due.laid("l000;l000;o1,1,1;o3,3,2;t0,1,2,0;");
        o.dig(1);
        due.is("21: the one that there is stays", o.best(1, 1, 1), 0);
        due.is("21: and keeps the row from 1", o.best(2, 1, 1), 2);
        o = Due.laid("l000;o2,2,1;t2,1,3,0;");
        o.pass(1);
        due.all("21: a slow one stays in an uneven year", 0, o.best(1, 1, 0), o.best(1, 1, 1));
        due.is("21: and goes in the next", o.best(1, 2, 1), 3);
        // To do without a ditch would bring more: one is dug all the same.
        o = Due.laid("l00;o1,1,1;t0,1,5,0;");
        due.is("21: by a ditch", o.best(1, 3, 0), 1);
        due.is("21: much less", o.best(1, 3, 1), 0);
    }

    private static void nothingChanges() {
        WalkingOrchard o = Due.laid(RING);
        o.pass(1);
        o.behind(60, 0);
        o.wealth(60, 0);
        o.comes(0, 5);
        o.again();
        o.ditches(0, 5, 20, -1);
        o.best(0, 20, 0);
        int[] counts = {12, 4, 1, 1, 1, 0, 0, 2, 0, 1, 0, RING.length()};
        for (int what = 0; what < counts.length; what++) {
            due.is("15 to 21: count(" + what + ")", o.count(what), counts[what]);
        }
        due.is("15 to 21: where it is", o.tree(0, 0), 1);
        due.is("15 to 21: how it heads", o.row(0, 1), 1);
    }
}
