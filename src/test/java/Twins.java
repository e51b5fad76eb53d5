import java.util.ArrayList;
import java.util.List;

/** Two orchards of one past: one is asked what is to change nothing, the other is not; they stay alike. */
final class Twins {
    private static final int CALLS_MOST = 512;

    private final Due due;
    private final String of;
    private final WalkingOrchard asked = new WalkingOrchard();
    private final WalkingOrchard spared = new WalkingOrchard();
    private int calls;

    Twins(Due due, String of, List<String> past) {
        this.due = due;
        this.of = of;
        for (String call : past) {
            both(call);
        }
    }

    private int both(String call) {
        calls++;
        int answer = Calls.answer(spared, call);
        due.is(of + ": " + call, Calls.answer(asked, call), answer);
        return answer;
    }

    int ask(String call) {
        calls++;
        return Calls.answer(asked, call);
    }

    void refused(String call, int answer) {
        due.is(of + ": " + call, ask(call), answer);
    }

    /** All that can be asked, then what can be undone, what is kept, what comes, and the text. */
    void stayAlike() {
        lookAtAll();
        do {
            glance();
        } while (both("undo()") >= 0);
        while (both("back()") >= 0) {
            glance();
        }
        both("pass(1)");
        glance();
        both("lay()");
        glance();
        due.is(of + ": calls of one object", calls <= CALLS_MOST ? 1 : 0, 1);
    }

    private void lookAtAll() {
        List<String> looks = new ArrayList<>();
        for (int what = 0; what < 12; what++) {
            looks.add(Calls.told("count", what));
        }
        int cells = both("count(0)");
        int rows = both("count(2)");
        for (int x = 0; x < cells; x++) {
            for (int what = 0; what < 4; what++) {
                looks.add(Calls.told("cell", x, what));
            }
        }
        for (int r = 0; r < rows; r++) {
            for (int what = 0; what < 5; what++) {
                looks.add(Calls.told("row", r, what));
            }
            for (int k = 0; k < 4; k++) {
                looks.add(Calls.told("tree", r, k));
            }
            looks.add(Calls.told("behind", 7, r));
            looks.add(Calls.told("fits", r, 0));
        }
        for (int p = 0; p < 4; p++) {
            looks.add(Calls.told("has", p));
        }
        looks.add("fault()");
        looks.add("again()");
        looks.add("century(5, 30, 0)");
        looks.forEach(this::both);
    }

    private void glance() {
        for (int what = 2; what < 12; what++) {
            both(Calls.told("count", what));
        }
        both("tree(0, 0)");
        both("row(0, 1)");
    }
}
