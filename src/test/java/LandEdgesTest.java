import java.util.List;

/**
 * The sentences of promises 1 to 9 that name a limit, an end, something empty or full: the value just
 * inside, and the one just outside where RefusedTest has not refused it. One or more methods a promise.
 */
public final class LandEdgesTest {
    private static final String WIDEST = "l000000;l000000;l000000;l000000;l000000;l000000;";

    private static final Due due = new Due();

    public static void main(String[] args) {
        newObjects();
        write();
        wipe();
        faultsOfNumbers();
        faultsOfSigns();
        faultsOfHowMany();
        faultsOfFullTexts();
        lay();
        cell();
        row();
        tree();
        has();
        due.end("LandEdgesTest");
    }

    private static void newObjects() {
        WalkingOrchard busy = new WalkingOrchard();
        Twins twins = new Twins(due, "1: beside another object", List.of());
        Calls.run(busy, "write(108)", "pass(3)", "dig(0)", "leave(1)", "see(0, 0, 0)", "keep()", "pass(20)");
        due.counts("1: behind others", new WalkingOrchard(), 30, 6, 3, 0, 6, 0, 0, 0, 0, 0, 0, 0);
        twins.stayAlike();
        due.is("1: the text is empty, so it is not laid", new WalkingOrchard().lay(), Due.NO);
    }

    private static void write() {
        WalkingOrchard o = new WalkingOrchard();
        for (int letter = 32; letter <= 126; letter++) {
            due.is("2: letter " + letter, o.write(letter), letter - 31);
        }
        o = Due.written(longText(200));
        due.is("2: the last place", o.count(11), 200);
        o = Due.written(longText(199));
        due.is("2: one more than 199", o.write('l'), 200);
        due.is("2: one more than 200", o.write('0'), Due.FULL);
        due.is("2: it is not behind the text", o.fault(), 199);
    }

    private static void wipe() {
        WalkingOrchard o = Due.written(longText(200));
        due.is("3: of a full text", o.wipe(), 200);
        due.is("3: it is empty", o.count(11), 0);
        due.is("3: of an empty one", o.wipe(), 0);
        for (char letter : "l0;t0,0,0,0;".toCharArray()) {
            o.write(letter);
        }
        due.is("3: nothing of it is left behind the new one", o.fault(), Due.NONE);
        due.is("3: nor laid", o.lay(), 1);
        due.is("3: nor owned", o.cell(0, 1), 0);
        // What stood behind it in the text of before does not end an item that has no end.
        for (String begun : new String[] {"l", "l0", "l0;t0,0,0,0", "l0;t0,0,0,", "l0;t0,0,0"}) {
            o.wipe();
            for (char letter : begun.toCharArray()) {
                o.write(letter);
            }
            due.is("3: of " + begun, o.fault(), begun.length() > 3 ? 3 : 0);
            due.is("3: of " + begun, o.lay(), Due.NO);
        }
    }

    /** A text without fault, of one row and so many letters (80 to 200). */
    private static String longText(int letters) {
        String[] items = {"o0,0,1;", "o00,0,1;", "o00,00,1;", "o00,00,01;"};
        StringBuilder text = new StringBuilder(WIDEST).append("t0,1,1,0;");
        while (letters - text.length() > 20) {
            text.append(items[0]);
        }
        int left = letters - text.length();
        return text.append(items[left / 2 - 7]).append(items[left - left / 2 - 7]).toString();
    }

    private static void fault(String text, int at) {
        due.is("4: fault of " + text, Due.written(text).fault(), at);
    }

    /** Each number of an item from 0 to 99: those that are told, and all others. */
    private static void faultsOfNumbers() {
        String land = "l000000;l000000;";
        for (int v = 0; v < 100; v++) {
            fault(land + "o" + v + ",11,0;", v <= 11 ? Due.NONE : 16);
            fault(land + "o5," + v + ",0;", v >= 5 && v <= 11 ? Due.NONE : 16);
            fault(land + "o0,11," + v + ";", v <= 3 ? Due.NONE : 16);
            fault(land + "t" + v + ",0,0,0;", v <= 3 ? Due.NONE : 16);
            fault(land + "t0," + v + ",0,0;", v <= 3 ? Due.NONE : 16);
            fault(land + "t0,0," + v + ",0;", v <= 9 ? Due.NONE : 16);
            fault(land + "t0,0,0," + v + ";", v <= 11 ? Due.NONE : 16);
            fault(land + "t0,0,0,7," + v + ";", v == 1 || v == 6 || v == 8 ? Due.NONE : 16);
            fault(land + "t0,0,0,5," + v + ";", v == 4 || v == 11 ? Due.NONE : 16);
            fault(land + "t0,0,0,6," + v + ";", v == 0 || v == 7 ? Due.NONE : 16);
            fault(WIDEST + "t0,0,0," + v + ";", v <= 35 ? Due.NONE : 48);
            fault(WIDEST + "o0," + v + ",0;", v <= 35 ? Due.NONE : 48);
            fault("l0;o" + v + "," + v + ",0;", v == 0 ? Due.NONE : 3);
        }
    }

    /** What stands in each place of an item: none, one or two figures, and no sign beside them. */
    private static void faultsOfSigns() {
        String[] items = {"o#,1,0;", "o0,#,0;", "o0,1,#;", "t#,0,0,0;", "t0,#,0,0;", "t0,0,#,0;", "t0,0,0,#;",
            "t0,0,0,0,#;"};
        String[] wrong = {"", "001", "000", "/", ":", "0:", "/1", "1/", " 1", "1 ", "-1", "+1", "1.", "a", "l", ";"};
        for (String item : items) {
            fault("l00;" + item.replace("#", "1"), Due.NONE);
            fault("l00;" + item.replace("#", "01"), Due.NONE);
            for (String w : wrong) {
                fault("l00;" + item.replace("#", w), 4);
            }
        }
        // A sign beside the figures would stand for a cell that there is.
        fault("l000000;l000000;o0,:,1;", 16);
        fault("l000000;l000000;o:,11,1;", 16);
        fault("l000000;l000000;t0,0,0,:;", 16);
        for (int sign = 32; sign < 127; sign++) {
            char s = (char) sign;
            fault("l" + s + ";", s >= '0' && s <= '3' ? Due.NONE : 0);
            fault("l0" + s + ";", s >= '0' && s <= '3' ? Due.NONE : s == ';' ? 3 : 0);
            fault("l0;" + s, 3);
            fault("l00;o0,1,0" + s, s == ';' ? Due.NONE : 4);
            fault("l00;o0" + s + "1,0;", s == ',' ? Due.NONE : 4);
            fault("l00;" + s + "0,1,0;", s == 'o' ? Due.NONE : 4);
            fault("l00;" + s + "0,1,0,0;", s == 't' ? Due.NONE : 4);
            fault(s + "00;", s == 'l' ? Due.NONE : 0);
        }
    }

    private static void faultsOfHowMany() {
        StringBuilder cells = new StringBuilder();
        for (int wide = 1; wide <= 8; wide++) {
            cells.append("0");
            fault("l" + cells + ";", wide <= 6 ? Due.NONE : 0);
            fault("l000;l" + cells + ";", wide == 3 ? Due.NONE : 5);
            fault("l000000;l" + cells + ";", wide == 6 ? Due.NONE : 8);
            fault("l0;l" + cells + ";", wide == 1 ? Due.NONE : 3);
        }
        StringBuilder lines = new StringBuilder();
        StringBuilder rows = new StringBuilder(WIDEST);
        for (int i = 1; i <= 8; i++) {
            lines.append("l00;");
            fault(lines.toString(), i <= 6 ? Due.NONE : 24);
            rows.append("t0,0,0,").append(i).append(";");
            fault(rows.toString(), i <= 3 ? Due.NONE : 48 + 27);
        }
        StringBuilder trees = new StringBuilder("t0,0,0");
        for (int i = 0; i <= 5; i++) {
            fault("l000000;" + trees + ";", i >= 1 && i <= 4 ? Due.NONE : 8);
            trees.append(",").append(i);
        }
        fault(WIDEST + "t0,0,0,0,1,2,3;t0,0,0,9,8,7,6;t0,0,0,12,13,14,15;", Due.NONE);
        // 0 letters, then an item told ahead of the lines that it would want.
        fault("", Due.NONE);
        fault("l00;o0,2,1;l00;", 4);
        fault("l00;l00;o0,2,1;", Due.NONE);
        fault("l00;t0,0,0,2;l00;", 4);
        fault("l00;l00;t0,0,0,2;", Due.NONE);
        fault("l00;o1,1,1;o1,0,1;", 11);
    }

    private static void faultsOfFullTexts() {
        for (int letters = 187; letters <= 200; letters++) {
            String text = longText(letters);
            due.is("4: letters of " + text, text.length(), letters);
            fault(text, Due.NONE);
        }
        fault(longText(199) + "l", 199);
        fault(longText(199) + ";", 199);
        fault(longText(198) + "l0", 198);
        fault(longText(200).substring(0, 199), 191);
        fault("x" + longText(199), 0);
    }

    private static void lay() {
        WalkingOrchard o = Due.written(longText(200));
        for (int i = 0; i < 9; i++) {
            o.pass(1);
        }
        Calls.run(o, "dig(0)", "leave(1)", "keep()", "keep()", "see(0, 0, 0)", "see(0, 0, 0)", "see(0, 0, 0)",
            "see(0, 0, 0)", "see(0, 0, 0)", "see(0, 0, 0)");
        due.all("5: full", Due.FULL, o.keep(), o.see(0, 0, 0), o.write('l'));
        due.is("5: it can be undone", o.count(9), 8);
        due.is("5: lay", o.lay(), 1);
        due.counts("5: anew", o, 36, 6, 1, 0, 1, 0, 0, 0, 0, 0, 0, 200);
        due.all("5: nothing of what was", Due.NO, o.undo(), o.back());
        due.is("5: there is room", o.see(0, 0, 0), 1);
        due.is("5: there is room", o.keep(), 1);
        due.is("5: without a row", Due.written("l0;").lay(), Due.NO);
        due.is("5: with one", Due.written("l0;t0,0,0,0;").lay(), 1);
        due.is("5: with a fourth one", Due.written("l0000;t0,0,0,0;t0,0,0,1;t0,0,0,2;t0,0,0,3;").lay(), Due.NO);
        due.is("5: with three", Due.written("l0000;t0,0,0,0;t0,0,0,1;t0,0,0,2;").lay(), 3);
    }

    private static void cell() {
        WalkingOrchard o = Due.laid("l100000;l000000;l000000;l000000;l000000;l000012;o34,35,3;o0,0,1;t0,1,1,34,33;");
        due.all("6: the first cell", 1, o.cell(0, 0), o.cell(0, 1));
        due.is("6: the last cell", o.cell(35, 0), 2);
        due.is("6: its owner", o.cell(35, 1), 3);
        due.is("6: no ditch in it", o.cell(35, 2), 0);
        due.is("6: no tree in it", o.cell(35, 3), Due.NONE);
        due.is("6: behind it", o.cell(36, 0), Due.BAD);
        due.is("6: ahead of the first one", o.cell(-1, 0), Due.BAD);
        for (int ground = 0; ground < 4; ground++) {
            o = Due.laid("l" + ground + "00000;l000000;l000000;l000000;l000000;l00000" + ground
                + ";t3,3,0,1;t3,1,0,34;");
            due.all("6: the first and the last cell, of " + ground, ground, o.cell(0, 0), o.cell(35, 0));
            due.is("7: into the first cell, of " + ground, o.row(0, 4), ground < 3 ? 0 : 7);
            due.is("7: into the last cell, of " + ground, o.row(1, 4), ground < 3 ? 35 : 28);
        }
        o = Due.laid(WIDEST + "t0,1,1,35;");
        due.is("6: a tree in the last cell", o.cell(35, 3), 0);
        o.dig(0);
        due.is("6: a ditch in the first one", o.cell(0, 2), 1);
        o = Due.laid(WIDEST + "t0,1,1,0;");
        o.dig(35);
        due.is("6: a ditch in the last one", o.cell(35, 2), 1);
        o = Due.laid(WIDEST + "t0,0,0,0;t0,0,0,6;t0,0,1,28,34,35;");
        due.is("6: the last row", o.cell(35, 3), 2);
        o.leave(2);
        due.is("6: left behind in the last cell", o.cell(35, 3), 9);
        due.is("6: what of it", o.cell(35, 4), Due.BAD);
    }

    /** A row in each corner and in each side's middle, of nine cells: heading out of the land, it turns. */
    private static void row() {
        int[] cells = {0, 2, 6, 8, 1, 3, 5, 7};
        int[][] plain = {{1, 1, 3, 3}, {1, 5, 5, 1}, {3, 7, 7, 3}, {5, 5, 7, 7},
            {2, 2, 4, 0}, {0, 4, 6, 0}, {2, 8, 8, 4}, {4, 8, 6, 6}};
        int[][] left = {{1, 1, 3, 3}, {1, 5, 5, 1}, {3, 7, 7, 3}, {5, 5, 7, 7},
            {0, 2, 4, 0}, {0, 4, 6, 6}, {2, 2, 8, 4}, {4, 8, 8, 6}};
        for (int c = 0; c < cells.length; c++) {
            for (int d = 0; d < 4; d++) {
                String rest = "," + d + ",0," + cells[c] + ";";
                due.is("7: plain" + rest, Due.laid("l000;l000;l000;t0" + rest).row(0, 4), plain[c][d]);
                due.is("7: left" + rest, Due.laid("l000;l000;l000;t1" + rest).row(0, 4), left[c][d]);
                due.is("7: alone" + rest, Due.laid("l0;t0," + d + ",0,0;").row(0, 4), Due.NONE);
            }
        }
        WalkingOrchard o = Due.laid("l0000;t2,1,0,0;");
        due.is("7: a slow one in year 0", o.row(0, 4), 1);
        o.pass(1);
        due.is("7: in year 1", o.row(0, 4), Due.NONE);
        o.pass(1);
        due.is("7: in year 2", o.row(0, 4), 2);
        o.dig(2);
        due.is("7: with a ditch there", o.row(0, 4), Due.NONE);
    }

    private static void tree() {
        WalkingOrchard o = Due.laid(WIDEST + "t0,1,0,3,2,1,0;t0,1,0,9;");
        for (int size = 4; size > 0; size--) {
            for (int k = 0; k < 4; k++) {
                due.is("8: number " + k + " of " + size, o.tree(0, k), k < size ? 3 - k : Due.NONE);
            }
            due.is("8: number 4 of " + size, o.tree(0, 4), Due.BAD);
            due.is("8: leave of " + size, o.leave(0), size > 1 ? 4 - size : Due.NO);
        }
        due.all("8: of one alone", Due.NONE, o.tree(1, 1), o.tree(1, 2), o.tree(1, 3));
        due.is("8: a row that is not", o.tree(2, 0), Due.BAD);
    }

    private static void has() {
        WalkingOrchard o = Due.laid("l0000;o0,0,3;o1,1,2;o2,2,1;t0,0,9,0;t0,0,8,2;t0,0,7,3;");
        o.dig(1);
        o.pass(20);
        due.is("9: owner 0", o.has(0), 160);
        due.is("9: owner 1", o.has(1), 180);
        due.is("9: owner 2", o.has(2), 0);
        due.is("9: owner 3", o.has(3), 180);
        due.is("9: all", o.count(7), 520);
    }
}
