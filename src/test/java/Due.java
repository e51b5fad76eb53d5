/** Counts the calls whose answer is not the one that is due, and ends a test by that count. */
final class Due {
    static final int BAD = -1, NO = -2, FULL = -3, NONE = -4;

    private int wrong;
    private int asked;

    void is(String call, long got, long want) {
        asked++;
        if (got != want) {
            wrong++;
            System.out.println(call + " answered " + got + ", due is " + want);
        }
    }

    /** The same answer to each of several calls. */
    void all(String calls, long want, long... got) {
        for (int i = 0; i < got.length; i++) {
            is(calls + ", number " + i, got[i], want);
        }
    }

    /** What count answers from 0 on. */
    void counts(String what, WalkingOrchard orchard, int... want) {
        for (int i = 0; i < want.length; i++) {
            is(what + ", count(" + i + ")", orchard.count(i), want[i]);
        }
    }

    void end(String test) {
        System.out.println(test + ": " + asked + " answers, " + wrong + " not as due");
        if (wrong != 0) {
            System.exit(1);
        }
    }

    /** A new orchard, its text wiped, with this text instead. */
    static WalkingOrchard written(String text) {
        WalkingOrchard orchard = new WalkingOrchard();
        orchard.wipe();
        for (int i = 0; i < text.length(); i++) {
            orchard.write(text.charAt(i));
        }
        return orchard;
    }

    static WalkingOrchard laid(String text) {
        WalkingOrchard orchard = written(text);
        if (orchard.lay() < 1) {
            throw new IllegalStateException("not laid: " + text);
        }
        return orchard;
    }

    /** Numbers that no promise tells, besides those just outside. */
    static final int[] FAR_OUT = {Integer.MIN_VALUE, Integer.MIN_VALUE + 1, -1000000, -65, -64, -5, -4, -3, -2,
        100, 127, 1000, 10000, 65536, 1000000, Integer.MAX_VALUE - 1, Integer.MAX_VALUE};
}
