import java.util.ArrayList;
import java.util.List;
import java.util.Random;

/** Texts by draws: most of them without fault, some with a letter or a number that is not so. */
final class Texts {
    private static final String LETTERS = "lot0123456789,;x ";

    static String drawn(Random draws, boolean spoilt) {
        StringBuilder text = new StringBuilder();
        int width = 1 + draws.nextInt(6);
        int lines = 1 + draws.nextInt(6);
        int bare = draws.nextInt(3);
        char[] grounds = new char[width * lines];
        for (int y = 0; y < lines; y++) {
            text.append('l');
            for (int x = 0; x < width; x++) {
                int ground = draws.nextInt(4 + 4 * bare);
                grounds[y * width + x] = (char) ('0' + (ground < 4 ? ground : 0));
                text.append(grounds[y * width + x]);
            }
            text.append(';');
        }
        for (int i = draws.nextInt(4); i > 0; i--) {
            int from = draws.nextInt(grounds.length);
            int to = from + draws.nextInt(grounds.length - from);
            text.append('o').append(figures(draws, from)).append(',').append(figures(draws, to)).append(',')
                .append(figures(draws, draws.nextInt(4))).append(';');
        }
        boolean[] taken = new boolean[grounds.length];
        for (int i = 1 + draws.nextInt(3); i > 0; i--) {
            plant(draws, text, width, grounds, taken);
        }
        return spoilt ? spoil(draws, text) : text.toString();
    }

    private static String figures(Random draws, int number) {
        return number < 10 && draws.nextInt(4) == 0 ? "0" + number : "" + number;
    }

    private static void plant(Random draws, StringBuilder text, int width, char[] grounds, boolean[] taken) {
        List<Integer> cells = new ArrayList<>();
        for (int x = 0; x < grounds.length; x++) {
            if (grounds[x] < '2' && !taken[x]) {
                cells.add(x);
            }
        }
        if (cells.isEmpty()) {
            return;
        }
        text.append('t').append(draws.nextInt(4)).append(',').append(draws.nextInt(4)).append(',')
            .append(figures(draws, draws.nextInt(10)));
        int x = cells.get(draws.nextInt(cells.size()));
        for (int k = 1 + draws.nextInt(4); k > 0; k--) {
            text.append(',').append(figures(draws, x));
            taken[x] = true;
            List<Integer> next = new ArrayList<>();
            for (int y : cells) {
                boolean line = y / width == x / width && Math.abs(y - x) == 1;
                if (!taken[y] && (line || Math.abs(y - x) == width)) {
                    next.add(y);
                }
            }
            if (next.isEmpty()) {
                break;
            }
            x = next.get(draws.nextInt(next.size()));
        }
        text.append(';');
    }

    private static String spoil(Random draws, StringBuilder text) {
        for (int i = 1 + draws.nextInt(2); i > 0 && text.length() > 0; i--) {
            int at = draws.nextInt(text.length());
            char letter = LETTERS.charAt(draws.nextInt(LETTERS.length()));
            switch (draws.nextInt(4)) {
                case 0:
                    text.setCharAt(at, letter);
                    break;
                case 1:
                    text.deleteCharAt(at);
                    break;
                case 2:
                    text.insert(at, letter);
                    break;
                default:
                    text.append(text.substring(at));
                    break;
            }
        }
        return text.toString();
    }
}
