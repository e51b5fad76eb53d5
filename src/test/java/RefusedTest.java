import java.util.ArrayList;
import java.util.Arrays;
import java.util.List;

/**
 * What a refused call answers, in the order BAD, NO, NONE, FULL, and that nothing changes by it, nor by
 * a call that only asks: each call by itself, in orchards of several pasts.
 */
public final class RefusedTest {
    private static final String LAND = "l0012;l0003;l0100;o0,3,1;o4,6,2;o9,9,3;t0,1,2,1,0;t2,3,1,6;";

    private static final Due due = new Due();

    public static void main(String[] args) {
        anew();
        busy();
        full();
        fullText();
        anotherText();
        shut();
        due.end("RefusedTest");
    }

    private static List<String> past(String text, String... calls) {
        List<String> past = new ArrayList<>();
        past.add("wipe()");
        for (char letter : text.toCharArray()) {
            past.add(Calls.told("write", letter));
        }
        past.add("lay()");
        past.addAll(Arrays.asList(calls));
        return past;
    }

    private static List<String> more(List<String> past, String... calls) {
        List<String> all = new ArrayList<>(past);
        all.addAll(Arrays.asList(calls));
        return all;
    }

    /**
     * Year 3: row 0 in 6 (to the south, one tree), row 1 in 4 (to the west); 1 left behind, a ditch
     * in 8; 6 can be undone, 1 is kept, 2 are seen; a letter behind the text is a fault.
     */
    private static List<String> busyPast() {
        return past(LAND, "dig(10)", "pass(1)", "leave(0)", "see(0, 2, 1)", "see(1, 4, 3)", "keep()", "dig(8)",
            "pass(2)", "fill(10)", "write(120)");
    }

    private static void refused(String of, List<String> past, int answer, String... calls) {
        for (String call : calls) {
            Twins twins = new Twins(due, of + ", " + call, past);
            twins.refused(call, answer);
            twins.stayAlike();
        }
    }

    /** Every argument of every call outside its limits: BAD, whatever else were so. */
    private static void bad(String of, List<String> past, int cells, int rows) {
        for (Limits limits : Limits.of(cells, rows)) {
            refused(of, past, Due.BAD, limits.outside().toArray(new String[0]));
        }
    }

    private static void onlyAsked(String of, List<String> past, int cells, int rows) {
        for (Limits limits : Limits.ofQuestions(cells, rows)) {
            for (String call : limits.inside()) {
                Twins twins = new Twins(due, of + ", " + call, past);
                twins.ask(call);
                twins.stayAlike();
            }
        }
    }

    private static void anew() {
        bad("anew", List.of(), 30, 3);
        onlyAsked("anew", List.of(), 30, 3);
        refused("anew", List.of(), Due.BAD, "meet(0, 0)", "meet(1, 1)", "meet(2, 2)");
        refused("anew", List.of(), Due.NO, "lay()", "undo()", "back()", "leave(2)", "dig(3)", "dig(13)", "dig(25)",
            "dig(7)", "dig(6)", "dig(5)", "dig(26)", "fill(0)", "fill(7)", "fill(29)");
        refused("anew", List.of(), Due.NONE, "fault()", "tree(2, 1)", "tree(0, 2)", "tree(1, 3)", "cell(0, 3)",
            "comes(1, 4)", "again()", "ditches(0, 4, 5, -1)", "ditches(0, 4, 5, 0)", "ditches(0, 9, 2, 0)");
        refused("anew", List.of(), 0, "wipe()", "forget()");
    }

    private static void busy() {
        List<String> past = busyPast();
        bad("busy", past, 12, 2);
        onlyAsked("busy", past, 12, 2);
        refused("busy", past, Due.BAD, "meet(0, 0)", "meet(1, 1)");
        refused("busy", past, Due.NO, "lay()", "dig(8)", "dig(2)", "dig(3)", "dig(7)", "dig(9)", "dig(1)", "dig(4)",
            "dig(6)", "fill(0)", "fill(1)", "fill(2)", "fill(4)", "fill(10)", "fill(11)", "leave(0)", "leave(1)");
        refused("busy", past, Due.NONE, "tree(0, 1)", "tree(1, 1)", "tree(0, 3)", "row(1, 4)", "cell(8, 3)");
        refused("busy", past, LAND.length(), "fault()");
        refused("busy", more(past, "back()"), Due.NO, "back()", "undo()", "lay()");
        refused("busy", more(past, "undo()", "undo()", "undo()", "undo()", "undo()", "undo()"), Due.NO, "undo()");
    }

    /** 9 things done, 2 kept, 6 seen, all of which fits: no more of them can be. */
    private static void full() {
        List<String> past = past(LAND, "keep()", "dig(4)", "fill(4)", "pass(1)", "leave(0)", "dig(10)", "keep()",
            "dig(8)", "pass(20)", "fill(8)", "pass(3)");
        past = more(past, sights(past, 2));
        due.is("full: all that is seen fits", state(past).fits(0, 0) != 0 && state(past).fits(1, 0) != 0 ? 1 : 0, 1);
        bad("full", past, 12, 2);
        onlyAsked("full", past, 12, 2);
        refused("full", past, Due.FULL, "keep()", "see(0, 0, 0)", "see(1, 11, 20)", "see(0, 1, 0)", "see(1, 3, 1)");
        refused("full", past, Due.NO, "leave(0)", "leave(1)", "dig(10)", "fill(8)");
        refused("full", more(past, "back()", "back()"), Due.NO, "back()", "undo()");
        refused("full", more(past, "lay()"), Due.NO, "back()", "undo()");
    }

    private static WalkingOrchard state(List<String> past) {
        WalkingOrchard o = new WalkingOrchard();
        Calls.run(o, past.toArray(new String[0]));
        return o;
    }

    /** Six that are so, behind this past, of as many rows. */
    private static String[] sights(List<String> past, int rows) {
        WalkingOrchard o = state(past);
        String[] sights = new String[6];
        for (int i = 0; i < 6; i++) {
            sights[i] = Calls.told("see", i % rows, o.behind(4 * i, i % rows), 4 * i);
        }
        return sights;
    }

    /** The text is of another land than the one that is laid, and has a fault or no row. */
    private static void anotherText() {
        for (String text : new String[] {"l33;l33;o0,3,3;", "l1;t0,0,0,0;l2;t", "l0;l0;t0,0,0,0;o0,1,2;t0,0,0,0;"}) {
            List<String> past = new ArrayList<>(busyPast());
            past.add("wipe()");
            for (char letter : text.toCharArray()) {
                past.add(Calls.told("write", letter));
            }
            Twins twins = new Twins(due, "another text, " + text, past);
            twins.ask("fault()");
            twins.refused("lay()", Due.NO);
            twins.refused("lay()", Due.NO);
            twins.stayAlike();
        }
    }

    private static void fullText() {
        StringBuilder text = new StringBuilder("l0100;t0,1,1,1,0;");
        while (text.length() < 192) {
            text.append("o0,0,1;");
        }
        text.append("o0,03,2;");
        due.is("2: letters of the text", text.length(), 200);
        List<String> past = past(text.toString(), "pass(1)");
        refused("full text", past, Due.FULL, "write(32)", "write(120)", "write(126)", "write(59)");
        refused("full text", past, Due.BAD, "write(31)", "write(127)", "write(-1)", "write(10)");
        refused("full text", past, Due.NONE, "fault()");
        String[] spoilt = past.stream().limit(200).toArray(String[]::new);
        refused("199 letters", List.of(spoilt), Due.BAD, "write(31)", "write(127)");
        refused("199 letters", List.of(spoilt), 192, "fault()");
        refused("199 letters", List.of(spoilt), Due.NO, "lay()");
    }

    /** One cell, in which the tree is: nothing can be dug, filled or left behind, and nobody meets. */
    private static void shut() {
        List<String> past = past("l0;t0,0,9,0;");
        bad("shut", past, 1, 1);
        onlyAsked("shut", past, 1, 1);
        refused("shut", past, Due.NO, "dig(0)", "fill(0)", "leave(0)", "undo()", "back()");
        refused("shut", past, Due.NONE, "row(0, 4)", "best(0, 1, 0)", "best(0, 20, 1)", "ditches(0, 0, 1, 0)",
            "ditches(0, 0, 20, 1)", "tree(0, 1)", "tree(0, 3)");
        refused("shut", past, Due.BAD, "best(0, 1, 2)", "best(4, 1, 0)", "best(0, 21, 0)", "ditches(0, 0, 1, 2)",
            "ditches(0, 0, 1, -2)", "ditches(0, 1, 1, 0)", "tree(0, 4)", "tree(1, 1)", "meet(0, 0)", "comes(0, 1)");
    }
}
