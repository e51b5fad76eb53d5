import java.util.Random;

/** Runs of calls by draws (always the same), each answer compared with the one of the model. */
public final class ModelTest {
    private static final int RUNS = 500;
    private static final int CALLS = 512;

    private static WalkingOrchard orchard;
    private static Model model;
    private static Random draws;
    private static int calls;
    private static int run;
    private static final Due due = new Due();
    private static final int[] answers = new int[40];

    public static void main(String[] args) {
        for (run = 0; run < RUNS; run++) {
            draws = new Random(run);
            orchard = new WalkingOrchard();
            model = new Model();
            calls = 0;
            if (run % 5 != 0) {
                lay(Texts.drawn(draws, draws.nextInt(4) == 0));
            }
            while (calls < CALLS - 60) {
                if (draws.nextInt(120) == 0 && calls < 200) {
                    lay(Texts.drawn(draws, draws.nextInt(3) == 0));
                }
                call(draws.nextInt(64));
            }
            lookAtAll();
        }
        tellCover();
        due.end("ModelTest");
    }

    private static void same(String call, int got, int want) {
        calls++;
        due.is("run " + run + ", " + call, got, want);
    }

    private static void lay(String text) {
        same("wipe()", orchard.wipe(), model.wipe());
        for (int i = 0; i < text.length(); i++) {
            int letter = text.charAt(i);
            same("write(" + letter + ")", orchard.write(letter), model.write(letter));
        }
        same("fault() of " + text, orchard.fault(), model.fault());
        same("lay() of " + text, orchard.lay(), model.lay());
    }

    /** Mostly a number that is told, now and then one beside, seldom one far out. */
    private static int number(int low, int high) {
        if (draws.nextInt(60) == 0) {
            return Due.FAR_OUT[draws.nextInt(Due.FAR_OUT.length)];
        }
        if (draws.nextInt(30) == 0) {
            return draws.nextBoolean() ? low - 1 : high + 1;
        }
        return low + draws.nextInt(Math.max(1, high - low + 1));
    }

    private static int cellNumber() {
        return number(0, model.count(0) - 1);
    }

    private static int rowNumber() {
        return number(0, model.count(2) - 1);
    }

    private static void call(int which) {
        if (which < 24) {
            act(which);
        } else if (which < 46) {
            ask(which);
        } else {
            askDearly(which);
        }
    }

    private static void act(int which) {
        int x = cellNumber();
        int r = rowNumber();
        int n = draws.nextBoolean() ? number(1, 3) : number(1, 20);
        if (which < 8) {
            same("pass(" + n + ")", orchard.pass(n), model.pass(n));
        } else if (which < 12) {
            same("dig(" + x + ")", orchard.dig(x), model.dig(x));
        } else if (which < 14) {
            same("fill(" + x + ")", orchard.fill(x), model.fill(x));
        } else if (which < 15) {
            same("leave(" + r + ")", orchard.leave(r), model.leave(r));
        } else if (which < 19) {
            same("undo()", orchard.undo(), model.undo());
        } else if (which < 20) {
            same("keep()", orchard.keep(), model.keep());
        } else if (which < 21) {
            same("back()", orchard.back(), model.back());
        } else if (which < 23) {
            // What comes is seen more often than what does not, so that something fits.
            int t = number(0, 20);
            int seen = draws.nextInt(4) > 0 && model.behind(t, r) >= 0 ? model.behind(t, r) : x;
            same("see(" + r + ", " + seen + ", " + t + ")", orchard.see(r, seen, t), model.see(r, seen, t));
        } else if (draws.nextInt(3) == 0) {
            same("forget()", orchard.forget(), model.forget());
        } else if (draws.nextInt(8) == 0) {
            same("lay()", orchard.lay(), model.lay());
        } else {
            int letter = number(32, 126);
            same("write(" + letter + ")", orchard.write(letter), model.write(letter));
        }
    }

    private static void ask(int which) {
        int x = cellNumber();
        int r = rowNumber();
        int q = rowNumber();
        int p = number(0, 3);
        int n = number(0, 60);
        switch (which) {
            case 24: case 25: case 26: case 27:
                int what = number(0, 3);
                same("cell(" + x + ", " + what + ")", orchard.cell(x, what), model.cell(x, what));
                break;
            case 28: case 29: case 30: case 31:
                int of = number(0, 4);
                same("row(" + r + ", " + of + ")", orchard.row(r, of), model.row(r, of));
                break;
            case 32: case 33:
                int k = number(0, 3);
                same("tree(" + r + ", " + k + ")", orchard.tree(r, k), model.tree(r, k));
                break;
            case 34: case 35:
                same("has(" + p + ")", orchard.has(p), model.has(p));
                break;
            case 36: case 37:
                same("behind(" + n + ", " + r + ")", orchard.behind(n, r), model.behind(n, r));
                break;
            case 38: case 39:
                same("wealth(" + n + ", " + p + ")", orchard.wealth(n, p), model.wealth(n, p));
                break;
            case 40: case 41:
                same("comes(" + r + ", " + x + ")", orchard.comes(r, x), model.comes(r, x));
                break;
            case 42:
                same("meet(" + r + ", " + q + ")", orchard.meet(r, q), model.meet(r, q));
                break;
            case 43:
                same("again()", orchard.again(), model.again());
                break;
            default:
                int count = number(0, 11);
                same("count(" + count + ")", orchard.count(count), model.count(count));
                break;
        }
    }

    private static void askDearly(int which) {
        int x = cellNumber();
        int r = rowNumber();
        int n = number(1, 20);
        int what = number(0, 1);
        if (which < 50) {
            askDitches(r, x, n);
        } else if (which < 54) {
            int p = number(0, 3);
            same("best(" + p + ", " + n + ", " + what + ")", orchard.best(p, n, what), model.best(p, n, what));
        } else if (which < 58) {
            int got = orchard.fits(r, what);
            same("fits(" + r + ", " + what + ")", got, model.fits(r, what));
            note(10, got > 0 && got < 15);
        } else if (which < 61) {
            int years = number(0, 8);
            int tenths = number(0, 10);
            int near = draws.nextInt(3) > 0 && model.behind(years / 2, r) >= 0 ? model.behind(years / 2, r) : x;
            int got = orchard.frost(r, near, years, tenths, what);
            same("frost(" + r + ", " + near + ", " + years + ", " + tenths + ", " + what + ")", got,
                model.frost(r, near, years, tenths, what));
            note(11, got > 1);
        } else {
            int z = number(0, 9999);
            int years = number(1, 60);
            same("century(" + z + ", " + years + ", " + what + ")", orchard.century(z, years, what),
                model.century(z, years, what));
        }
    }

    private static void askDitches(int r, int x, int n) {
        int k = number(-1, 1);
        int got = orchard.ditches(r, x, n, k);
        same("ditches(" + r + ", " + x + ", " + n + ", " + k + ")", got, model.ditches(r, x, n, k));
        if (k == -1 && got >= 0) {
            note(got, true);
        }
    }

    private static void note(int kind, boolean met) {
        answers[kind] += met ? 1 : 0;
    }

    /** The runs are worth little if the rarer answers do not come up in them. */
    private static void tellCover() {
        int[] kinds = {0, 1, 2, 10, 11};
        for (int kind : kinds) {
            due.is("enough answers of kind " + kind, answers[kind] >= 50 ? 1 : 0, 1);
        }
    }

    private static void lookAtAll() {
        for (int what = 0; what < 12; what++) {
            same("count(" + what + ")", orchard.count(what), model.count(what));
        }
        for (int r = 0; r < model.count(2); r++) {
            for (int k = 0; k < 4; k++) {
                same("tree(" + r + ", " + k + ")", orchard.tree(r, k), model.tree(r, k));
            }
        }
        for (int p = 0; p < 4; p++) {
            same("has(" + p + ")", orchard.has(p), model.has(p));
        }
        for (int x = 0; x < model.count(0) && calls < CALLS; x++) {
            same("cell(" + x + ", 3)", orchard.cell(x, 3), model.cell(x, 3));
        }
    }
}
