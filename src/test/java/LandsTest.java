/** Promises 1 to 9: the first land, the text and its faults, what stands where. */
public final class LandsTest {
    private static final Due due = new Due();

    public static void main(String[] args) {
        newObject();
        write();
        wipe();
        faultsOfLines();
        faultsOfOwners();
        faultsOfRows();
        faultsOfItems();
        lay();
        layOnceMore();
        layNot();
        cell();
        row();
        tree();
        has();
        due.end("LandsTest");
    }

    private static void newObject() {
        WalkingOrchard o = new WalkingOrchard();
        int[] counts = {30, 6, 3, 0, 6, 0, 0, 0, 0, 0, 0, 0};
        for (int what = 0; what < counts.length; what++) {
            due.is("1: count(" + what + ")", o.count(what), counts[what]);
        }
        String grounds = "000100" + "000100" + "020110" + "000000" + "030000";
        String owners = "111000" + "000000" + "000000" + "222222" + "333333";
        for (int x = 0; x < 30; x++) {
            due.is("1: ground of " + x, o.cell(x, 0), grounds.charAt(x) - '0');
            due.is("1: owner of " + x, o.cell(x, 1), owners.charAt(x) - '0');
            due.is("1: ditch in " + x, o.cell(x, 2), 0);
        }
        int[][] rows = {{0, 1, 3, 2, 8}, {1, 0, 2, 3, 22}, {3, 2, 5, 1, 11}};
        int[][] trees = {{7, 6, -4, -4}, {28, 27, 26, -4}, {5, -4, -4, -4}};
        for (int r = 0; r < 3; r++) {
            for (int what = 0; what < 5; what++) {
                due.is("1: row(" + r + ", " + what + ")", o.row(r, what), rows[r][what]);
            }
            for (int k = 0; k < 4; k++) {
                due.is("1: tree(" + r + ", " + k + ")", o.tree(r, k), trees[r][k]);
            }
        }
        due.is("1: fault of no text", o.fault(), Due.NONE);
        due.is("1: undo", o.undo(), Due.NO);
        due.is("1: back", o.back(), Due.NO);
        due.is("1: forget", o.forget(), 0);
        due.is("1: wipe", o.wipe(), 0);
        due.is("1: BAD", WalkingOrchard.BAD, -1);
        due.is("1: NO", WalkingOrchard.NO, -2);
        due.is("1: FULL", WalkingOrchard.FULL, -3);
        due.is("1: NONE", WalkingOrchard.NONE, -4);
    }

    private static void write() {
        WalkingOrchard o = new WalkingOrchard();
        due.is("2: the lowest letter", o.write(32), 1);
        due.is("2: the highest letter", o.write(126), 2);
        due.all("2: no letter", Due.BAD, o.write(31), o.write(127), o.write(0), o.write(-1), o.write(128),
            o.write(304), o.write(Integer.MAX_VALUE), o.write(Integer.MIN_VALUE));
        for (int length = 3; length <= 200; length++) {
            due.is("2: letter " + length, o.write('x'), length);
        }
        due.is("2: the 201st letter", o.write('x'), Due.FULL);
        due.is("2: no letter, where there is no room", o.write(31), Due.BAD);
        due.is("2: how long it is then", o.count(11), 200);
        due.is("2: wiped", o.wipe(), 200);
        due.is("2: again from the first", o.write('x'), 1);
    }

    private static void wipe() {
        WalkingOrchard o = Due.written("l0;x");
        due.is("3: fault ahead", o.fault(), 3);
        due.is("3: wipe", o.wipe(), 4);
        due.is("3: wipe of nothing", o.wipe(), 0);
        due.is("3: fault behind", o.fault(), Due.NONE);
        due.is("3: length behind", o.count(11), 0);
        o = Due.laid("l00;t0,1,2,0;");
        o.pass(1);
        due.is("3: wipe", o.wipe(), 13);
        due.is("3: the land stays", o.count(0), 2);
        due.is("3: the year stays", o.count(3), 1);
    }

    private static void fault(String text, int at) {
        WalkingOrchard o = Due.written(text);
        due.is("4: fault of " + text, o.fault(), at);
        due.is("4: once more, of " + text, o.fault(), at);
        due.is("4: the text stays, of " + text, o.count(11), text.length());
        due.is("4: the land stays, with " + text, o.count(0), 30);
    }

    private static void faultsOfLines() {
        fault("", Due.NONE);
        fault("l0;", Due.NONE);
        fault("l3;", Due.NONE);
        fault("l012301;", Due.NONE);
        fault("l0;l1;l2;l3;l0;l0;", Due.NONE);
        fault("l0;l1;l2;l3;l0;l0;l0;", 18);
        fault("l;", 0);
        fault("l4;", 0);
        fault("l0000000;", 0);
        fault("l0", 0);
        fault("l", 0);
        fault("l0,0;", 0);
        fault("l 0;", 0);
        fault("l0 ;", 0);
        fault("l00;l0;", 4);
        fault("l0;l00;", 3);
        fault("l000000;l0000000;", 8);
        fault("l00;l00", 4);
        fault("l00;l04;", 4);
        fault("l00;l;", 4);
    }

    private static void faultsOfOwners() {
        fault("l00;o0,1,3;", Due.NONE);
        fault("l00;o1,1,0;", Due.NONE);
        fault("l00;o00,01,03;", Due.NONE);
        fault("l00;l00;o0,3,1;", Due.NONE);
        fault("l00;o0,1,1;o0,1,2;o0,1,3;o0,1,0;", Due.NONE);
        fault("o0,0,0;", 0);
        fault("l00;o0,2,0;", 4);
        fault("l00;o2,2,0;", 4);
        fault("l00;o1,0,0;", 4);
        fault("l00;o0,1,4;", 4);
        fault("l00;o0,1,10;", 4);
        fault("l00;o0,3,1;l00;", 4);
        fault("l00;o0,1;", 4);
        fault("l00;o0;", 4);
        fault("l00;o;", 4);
        fault("l00;o0,1,0,0;", 4);
        fault("l00;o000,1,0;", 4);
        fault("l00;o0,001,0;", 4);
        fault("l00;o0,1,000;", 4);
        fault("l00;o,1,0;", 4);
        fault("l00;o0,,0;", 4);
        fault("l00;o0,1,;", 4);
        fault("l00;o0,1,0,;", 4);
        fault("l00;o0,1,0", 4);
        fault("l00;o0,1,", 4);
        fault("l00;o-0,1,0;", 4);
        fault("l00;o+0,1,0;", 4);
        fault("l00;o 0,1,0;", 4);
        fault("l00;o0,1,0 ;", 4);
        fault("l00;o0;1;0;", 4);
        fault("l00;o0,1,a;", 4);
        fault("l00;o0,1,0:;", 4);
        fault("l00;o0,1,/;", 4);
        fault("l000000;l000000;l000000;l000000;l000000;l000000;o0,35,1;", Due.NONE);
        fault("l000000;l000000;l000000;l000000;l000000;l000000;o0,36,1;", 48);
    }

    private static void faultsOfRows() {
        fault("l0;t0,0,0,0;", Due.NONE);
        fault("l1;t03,03,09,00;", Due.NONE);
        fault("l00;t4,0,0,0;", 4);
        fault("l00;t0,4,0,0;", 4);
        fault("l00;t0,0,10,0;", 4);
        fault("l00;t0,0,0;", 4);
        fault("l00;t0,0,0,;", 4);
        fault("l00;t0,0,0,2;", 4);
        fault("l00;t0,0,0,0", 4);
        fault("l00;t0,0,0,000;", 4);
        fault("t0,0,0,0;", 0);
        fault("l02;t0,0,0,1;", 4);
        fault("l02;t3,0,0,1;", 4);
        fault("l03;t0,0,0,1;", 4);
        fault("l01;t0,0,0,1;", Due.NONE);
        fault("l01;t0,0,0,0,1;", Due.NONE);
        fault("l02;t3,0,0,0,1;", 4);
        fault("l0000;l0000;t0,0,0,0,1,2,3;", Due.NONE);
        fault("l0000;l0000;t0,0,0,0,1,2,3,7;", 12);
        fault("l0000;l0000;t0,0,0,0,1,2,3,7,6;", 12);
        fault("l000;t0,0,0,0,2;", 5);
        fault("l000;t0,0,0,0,0;", 5);
        fault("l000;t0,0,0,0,1,0;", 5);
        fault("l00;l00;t0,0,0,1,2;", 8);
        fault("l00;l00;t0,0,0,2,1;", 8);
        fault("l00;l00;t0,0,0,0,3;", 8);
        fault("l00;l00;t0,0,0,1,3,2,0;", Due.NONE);
        fault("l00;l00;t0,0,0,0,2,3,1;", Due.NONE);
        // 4 is next to the first tree, and 3 to the one before.
        fault("l000;l000;t0,0,0,1,0,4;", 10);
        fault("l000;l000;t0,0,0,1,0,3;", Due.NONE);
        fault("l00;t0,0,0,0;t0,0,0,0;", 13);
        fault("l00;t0,0,0,0;t0,0,0,1,0;", 13);
        fault("l0000;t0,0,0,0;t0,0,0,1;t0,0,0,2;", Due.NONE);
        fault("l0000;t0,0,0,0;t0,0,0,1;t0,0,0,2;t0,0,0,3;", 33);
        fault("l0;t0,0,0,0;l0;", Due.NONE);
        fault("l0;t0,0,0,1;l0;", 3);
        fault("l000000;l000000;t0,0,0,11,10;", Due.NONE);
        fault("l000000;l000000;t0,0,0,12;", 16);
        fault("l000000;l000000;t0,0,0,99;", 16);
    }

    private static void faultsOfItems() {
        fault("x", 0);
        fault(";", 0);
        fault(" ", 0);
        fault("L0;", 0);
        fault("0;", 0);
        fault("l0;;", 3);
        fault("l0; l0;", 3);
        fault("l0;x;y;", 3);
        fault("l0;x", 3);
        fault("l00;o0,9,0;l0;", 4);
        fault("l00;t9,0,0,0;o0,9,0;", 4);
        fault("l0;l0;l0;l0;l0;l0;o0,5,1;~", 25);
    }

    private static void lay() {
        WalkingOrchard o = new WalkingOrchard();
        o.pass(3);
        o.dig(0);
        o.leave(0);
        o.keep();
        o.see(0, 0, 0);
        for (char letter : "l0100;l0203;o1,4,2;o4,5,3;t1,2,4,3,2;t2,3,9,5;".toCharArray()) {
            o.write(letter);
        }
        due.is("5: length", o.count(11), 46);
        due.is("5: fault", o.fault(), 37);
        o.wipe();
        String text = "l0100;l0203;o1,4,2;o4,5,3;t1,2,4,3,2;t2,3,9,4;";
        for (char letter : text.toCharArray()) {
            o.write(letter);
        }
        due.is("5: lay", o.lay(), 2);
        int[] counts = {8, 4, 2, 0, 3, 0, 0, 0, 0, 0, 0, 46};
        for (int what = 0; what < counts.length; what++) {
            due.is("5: count(" + what + ") behind it", o.count(what), counts[what]);
        }
        String owners = "02223300";
        for (int x = 0; x < 8; x++) {
            due.is("5: owner of " + x, o.cell(x, 1), owners.charAt(x) - '0');
        }
        due.is("5: lay once more", o.lay(), 2);
        o.pass(5);
        due.is("5: it has something", o.count(7) > 0 ? 1 : 0, 1);
        due.is("5: the text stayed, so lay is as at first", o.lay(), 2);
        due.is("5: year", o.count(3), 0);
        due.is("5: nobody has anything", o.count(7), 0);
        due.is("5: nothing can be undone", o.undo(), Due.NO);
        o = Due.laid("l00;o0,1,2;l00;o2,2,3;t0,1,0,0;l00;");
        due.all("5: owners told ahead of a line", 2, o.cell(0, 1), o.cell(1, 1));
        due.is("5: owners told behind it", o.cell(2, 1), 3);
        due.all("5: nobody's", 0, o.cell(3, 1), o.cell(4, 1), o.cell(5, 1));
        due.is("5: three rows", Due.written("l000;t0,0,0,0;t0,0,0,1;t0,0,0,2;").lay(), 3);
        due.is("5: one row", Due.written("l0;t0,0,0,0;").lay(), 1);
        due.is("5: the first one leaves no owners", Due.laid("l0000;t0,0,0,0;").cell(0, 1), 0);
    }

    /** Nothing of the text that was laid ahead is left. */
    private static void layOnceMore() {
        WalkingOrchard o = Due.laid("l0222;l0000;o0,7,3;t3,1,1,0;t0,1,1,4,5;t0,1,1,6;");
        o.wipe();
        for (char letter : "l0333;l0000;t3,1,1,0;".toCharArray()) {
            o.write(letter);
        }
        due.is("5: lay of another text", o.lay(), 1);
        due.all("5: its houses", 3, o.cell(1, 0), o.cell(2, 0), o.cell(3, 0));
        due.all("5: its owners", 0, o.cell(0, 1), o.cell(7, 1));
        due.all("5: no trees there any more", Due.NONE, o.cell(4, 3), o.cell(5, 3), o.cell(6, 3));
        due.is("5: its row", o.cell(0, 3), 0);
        due.is("5: whither it goes", o.row(0, 4), 4);
        due.is("5: no other row", o.tree(1, 0), Due.BAD);
        due.is("5: a ditch can be dug where a tree was", o.dig(5), 1);
        due.is("5: the fault's place is its own", o.fault(), Due.NONE);
    }

    private static void layNot() {
        String[] texts = {"", "l0;", "o0,0,0;", "l0;t0,0,0,0", "l0;t0,0,0,0;x", "t0,0,0,0;l0;", "l0;o0,0,1;",
            "l0;t0,0,0,1;"};
        for (String text : texts) {
            WalkingOrchard o = Due.written(text);
            o.pass(2);
            o.keep();
            o.see(1, 2, 3);
            due.is("5: lay of " + text, o.lay(), Due.NO);
            int[] counts = {30, 6, 3, 2, 6, 0, 0, 38, 1, 1, 1, text.length()};
            for (int what = 0; what < counts.length; what++) {
                due.is("5: count(" + what + ") behind no lay of " + text, o.count(what), counts[what]);
            }
            due.is("5: row 0 stays as it was", o.tree(0, 0), 9);
            due.is("5: owners stay", o.cell(0, 1), 1);
            due.is("5: what was done can be undone", o.undo(), 0);
        }
    }

    private static void cell() {
        WalkingOrchard o = Due.laid("l0123;l0000;o1,2,3;o2,2,1;t0,1,2,1,0;t3,3,1,7;");
        for (int x = 0; x < 4; x++) {
            due.is("6: ground of " + x, o.cell(x, 0), x);
        }
        due.all("6: owners", 0, o.cell(0, 1), o.cell(3, 1), o.cell(7, 1));
        due.is("6: owner of 1", o.cell(1, 1), 3);
        due.is("6: the last owner of 2", o.cell(2, 1), 1);
        due.all("6: row 0 is in", 0, o.cell(0, 3), o.cell(1, 3));
        due.is("6: row 1 is in 7", o.cell(7, 3), 1);
        due.all("6: no row is in", Due.NONE, o.cell(2, 3), o.cell(3, 3), o.cell(4, 3));
        due.is("6: no ditch", o.cell(4, 2), 0);
        o.dig(4);
        due.is("6: a ditch", o.cell(4, 2), 1);
        due.is("6: its ground", o.cell(4, 0), 0);
        due.all("6: no ditch beside", 0, o.cell(5, 2), o.cell(0, 2));
        o.dig(6);
        due.all("6: a ditch in each of two", 1, o.cell(4, 2), o.cell(6, 2));
        o.leave(0);
        due.is("6: a tree left behind", o.cell(0, 3), 9);
        due.is("6: the other one", o.cell(1, 3), 0);
        due.all("6: wrong", Due.BAD, o.cell(-1, 0), o.cell(8, 0), o.cell(8, 3), o.cell(0, -1), o.cell(0, 4),
            o.cell(-1, 9));
        for (int far : Due.FAR_OUT) {
            due.all("6: wrong with " + far, Due.BAD, o.cell(far, 0), o.cell(far, 1), o.cell(far, 2),
                o.cell(far, 3), o.cell(0, far));
        }
    }

    private static void row() {
        WalkingOrchard o = Due.laid("l000;l000;l000;t2,1,4,3,0;t1,0,9,2;t3,3,0,7,8;");
        int[][] rows = {{2, 1, 4, 2, 4}, {1, 0, 9, 1, 1}, {3, 3, 0, 2, 6}};
        for (int r = 0; r < 3; r++) {
            for (int what = 0; what < 5; what++) {
                due.is("7: row(" + r + ", " + what + ")", o.row(r, what), rows[r][what]);
            }
        }
        due.all("7: wrong", Due.BAD, o.row(-1, 0), o.row(3, 0), o.row(0, 5), o.row(0, -1), o.row(3, 5));
        for (int far : Due.FAR_OUT) {
            due.all("7: wrong with " + far, Due.BAD, o.row(far, 0), o.row(far, 4), o.row(0, far));
        }
        o.pass(1);
        due.is("7: a slow one in an uneven year", o.row(0, 4), Due.NONE);
        due.is("7: how many trees", o.row(0, 3), 2);
        due.is("7: row 1 turned to the left", o.row(1, 1), 3);
        o.leave(0);
        due.is("7: how many trees behind leave", o.row(0, 3), 1);
        o = Due.laid("l030;t0,1,4,0;t0,1,4,2;");
        due.is("7: it stays", o.row(0, 4), Due.NONE);
        due.is("7: it stays", o.row(1, 4), Due.NONE);
        due.is("7: two rows", o.row(2, 4), Due.BAD);
        // Ahead of this year both could go to 1; row 0 will be there first.
        o = Due.laid("l000;t0,1,0,0;t0,3,0,2;");
        due.all("7: as things stand ahead of this year", 1, o.row(0, 4), o.row(1, 4));
    }

    private static void tree() {
        WalkingOrchard o = Due.laid("l0000;l0000;t0,2,0,0,1,2,3;t0,1,0,6;");
        for (int k = 0; k < 4; k++) {
            due.is("8: tree(0, " + k + ")", o.tree(0, k), k);
        }
        due.is("8: tree(1, 0)", o.tree(1, 0), 6);
        due.all("8: not so many", Due.NONE, o.tree(1, 1), o.tree(1, 2), o.tree(1, 3));
        due.all("8: wrong", Due.BAD, o.tree(2, 0), o.tree(-1, 0), o.tree(0, 4), o.tree(0, -1), o.tree(1, 4),
            o.tree(2, 4));
        for (int far : Due.FAR_OUT) {
            due.all("8: wrong with " + far, Due.BAD, o.tree(far, 0), o.tree(0, far), o.tree(1, far));
        }
        o.pass(1);
        int[] cells = {4, 0, 1, 2};
        for (int k = 0; k < 4; k++) {
            due.is("8: tree(0, " + k + ") behind a year", o.tree(0, k), cells[k]);
        }
        o.leave(0);
        due.is("8: the last one is left behind", o.tree(0, 3), Due.NONE);
        due.is("8: the one ahead of it is not", o.tree(0, 2), 1);
    }

    private static void has() {
        // All three stay; 1 has a tree of another row on either side, which counts once.
        WalkingOrchard o = Due.laid("l000;o0,0,1;o1,1,2;o2,2,3;t0,0,2,0;t0,0,5,1;t0,0,7,2;");
        due.all("9: at first", 0, o.has(0), o.has(1), o.has(2), o.has(3));
        o.pass(1);
        int[] has = {0, 3, 6, 8};
        for (int p = 0; p < 4; p++) {
            due.is("9: has(" + p + ")", o.has(p), has[p]);
        }
        o.pass(2);
        for (int p = 0; p < 4; p++) {
            due.is("9: has(" + p + ") behind 3", o.has(p), 3 * has[p]);
        }
        due.all("9: wrong", Due.BAD, o.has(-1), o.has(4));
        for (int far : Due.FAR_OUT) {
            due.is("9: has(" + far + ")", o.has(far), Due.BAD);
        }
    }
}
