import java.util.ArrayList;
import java.util.List;

/** Which numbers each call takes: of each argument the lowest and the highest one that is told. */
final class Limits {
    private static final int[] FAR = {Integer.MIN_VALUE, Integer.MAX_VALUE};

    final String name;
    private final int[] low;
    private final int[] high;

    private Limits(String name, int... lowAndHigh) {
        this.name = name;
        low = new int[lowAndHigh.length / 2];
        high = new int[lowAndHigh.length / 2];
        for (int i = 0; i < low.length; i++) {
            low[i] = lowAndHigh[2 * i];
            high[i] = lowAndHigh[2 * i + 1];
        }
    }

    static List<Limits> of(int cells, int rows) {
        int c = cells - 1;
        int r = rows - 1;
        List<Limits> all = new ArrayList<>(ofActs(cells, rows));
        all.addAll(ofQuestions(cells, rows));
        all.add(new Limits("write", 32, 126));
        all.add(new Limits("see", 0, r, 0, c, 0, 20));
        return all;
    }

    private static List<Limits> ofActs(int cells, int rows) {
        return List.of(new Limits("pass", 1, 20), new Limits("dig", 0, cells - 1),
            new Limits("fill", 0, cells - 1), new Limits("leave", 0, rows - 1));
    }

    /** The calls that only ask. */
    static List<Limits> ofQuestions(int cells, int rows) {
        int c = cells - 1;
        int r = rows - 1;
        return List.of(new Limits("fault"), new Limits("cell", 0, c, 0, 3), new Limits("row", 0, r, 0, 4),
            new Limits("tree", 0, r, 0, 3), new Limits("has", 0, 3), new Limits("behind", 0, 60, 0, r),
            new Limits("wealth", 0, 60, 0, 3), new Limits("comes", 0, r, 0, c), new Limits("meet", 0, r, 0, r),
            new Limits("again"), new Limits("ditches", 0, r, 0, c, 1, 20, -1, 1), new Limits("best", 0, 3, 1, 20, 0, 1),
            new Limits("fits", 0, r, 0, 1), new Limits("frost", 0, r, 0, c, 0, 8, 0, 10, 0, 1),
            new Limits("century", 0, 9999, 1, 60, 0, 1), new Limits("count", 0, 11));
    }

    /** Each argument just inside its limits: all calls of lowest and highest numbers. */
    List<String> inside() {
        List<String> calls = new ArrayList<>();
        for (int highs = 0; highs < 1 << low.length; highs++) {
            int[] numbers = new int[low.length];
            for (int i = 0; i < low.length; i++) {
                numbers[i] = (highs >> i & 1) == 1 ? high[i] : low[i];
            }
            boolean alike = name.equals("meet") && numbers[0] == numbers[1];
            if (!alike) {
                calls.add(Calls.told(name, numbers));
            }
        }
        return calls;
    }

    /** One argument just outside (or far out), the others at their lowest, then at their highest. */
    List<String> outside() {
        List<String> calls = new ArrayList<>();
        for (int i = 0; i < low.length; i++) {
            for (int number : new int[] {low[i] - 1, high[i] + 1, FAR[0], FAR[1]}) {
                calls.add(Calls.told(name, with(low, i, number)));
                calls.add(Calls.told(name, with(high, i, number)));
            }
        }
        return calls;
    }

    private static int[] with(int[] others, int at, int number) {
        int[] numbers = others.clone();
        numbers[at] = number;
        return numbers;
    }
}
