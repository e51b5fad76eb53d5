/** Promises 22 to 24: what was seen, and what fits it. */
public final class SeenTest {
    private static final String CROSS = "l000;l000;l000;t0,1,0,4;";

    private static final Due due = new Due();

    public static void main(String[] args) {
        see();
        forget();
        heads();
        headsOfKinds();
        kinds();
        asThingsStand();
        stays();
        due.end("SeenTest");
    }

    private static void see() {
        WalkingOrchard o = Due.laid("l000;l000;t0,1,0,0;t0,1,0,3;");
        due.is("22: the first", o.see(0, 5, 20), 1);
        due.is("22: another row", o.see(1, 0, 0), 2);
        due.is("22: the same once more", o.see(1, 0, 0), 3);
        due.all("22: wrong", Due.BAD, o.see(-1, 0, 0), o.see(2, 0, 0), o.see(0, -1, 0), o.see(0, 6, 0),
            o.see(0, 0, -1), o.see(0, 0, 21));
        due.is("22: what is wrong is not seen", o.count(8), 3);
        for (int n = 4; n <= 6; n++) {
            due.is("22: number " + n, o.see(0, 0, n), n);
        }
        due.is("22: the seventh", o.see(0, 0, 0), Due.FULL);
        due.is("22: wrong, where it is full", o.see(0, 0, 21), Due.BAD);
        for (int far : Due.FAR_OUT) {
            due.all("22: wrong with " + far, Due.BAD, o.see(far, 0, 0), o.see(0, far, 0), o.see(0, 0, far));
        }
        due.is("22: how many", o.count(8), 6);
    }

    private static void forget() {
        WalkingOrchard o = Due.laid(CROSS);
        due.is("23: nothing", o.forget(), 0);
        o.see(0, 0, 0);
        o.see(0, 1, 0);
        due.is("23: what does not fit", o.fits(0, 0), 0);
        due.is("23: forget", o.forget(), 2);
        due.is("23: once more", o.forget(), 0);
        due.is("23: all fits", o.fits(0, 0), 15);
        due.is("23: count", o.count(8), 0);
        due.is("23: the first again", o.see(0, 5, 1), 1);
        due.is("23: only that fits", o.fits(0, 0), 2);
    }

    private static int headsBySight(String text, int x, int t) {
        WalkingOrchard o = Due.laid(text);
        o.see(0, x, t);
        return o.fits(0, 0);
    }

    private static int kindsBySight(String text, int x, int t) {
        WalkingOrchard o = Due.laid(text);
        o.see(0, x, t);
        return o.fits(0, 1);
    }

    private static void heads() {
        due.is("24: nothing seen", Due.laid(CROSS).fits(0, 0), 15);
        due.is("24: north", headsBySight(CROSS, 1, 1), 1);
        due.is("24: east", headsBySight(CROSS, 5, 1), 2);
        due.is("24: south", headsBySight(CROSS, 7, 1), 4);
        due.is("24: west", headsBySight(CROSS, 3, 1), 8);
        due.is("24: nowhither", headsBySight(CROSS, 0, 1), 0);
        due.is("24: where it is now", headsBySight(CROSS, 4, 0), 15);
        due.is("24: not where it is now", headsBySight(CROSS, 3, 0), 0);
        due.is("24: three of them", headsBySight("l00;t0,1,0,0;", 1, 20), 7);
        due.is("24: west alone", headsBySight("l00;t0,1,0,0;", 0, 20), 8);
        due.is("24: the second tree's cell", headsBySight("l0000;t0,1,0,1,0;", 0, 0), 0);
        due.is("24: the first in it, if it stays", headsBySight("l0000;t0,1,0,1,0;", 1, 1), 8);
        WalkingOrchard o = Due.laid(CROSS);
        o.see(0, 2, 2);
        due.is("24: by the north", o.fits(0, 0), 1);
        o.see(0, 1, 1);
        due.is("24: both", o.fits(0, 0), 1);
        o.see(0, 5, 1);
        due.is("24: not all three", o.fits(0, 0), 0);
        due.all("24: wrong", Due.BAD, o.fits(-1, 0), o.fits(1, 0), o.fits(0, -1), o.fits(0, 2));
        for (int far : Due.FAR_OUT) {
            due.all("24: wrong with " + far, Due.BAD, o.fits(far, 0), o.fits(0, far), o.fits(far, 1));
        }
    }

    /** It heads another way, but is of its own kind and goes in the years in which it would. */
    private static void headsOfKinds() {
        due.is("24: a left one", headsBySight("l000;l000;l000;t1,1,0,4;", 2, 2), 2);
        due.is("24: a bold one", headsBySight("l020;l000;l000;t3,2,0,4;", 1, 1), 1);
        WalkingOrchard o = Due.laid("l000;l000;l000;t2,1,0,4;");
        o.pass(1);
        o.see(0, 5, 1);
        due.is("24: a slow one stays in an uneven year", o.fits(0, 0), 15);
        o.see(0, 2, 2);
        due.is("24: and goes in the next", o.fits(0, 0), 1);
    }

    private static void kinds() {
        due.is("24: nothing seen", Due.laid(CROSS).fits(0, 1), 15);
        due.is("24: any", kindsBySight(CROSS, 5, 1), 15);
        due.is("24: plain or bold", kindsBySight(CROSS, 8, 2), 9);
        due.is("24: left", kindsBySight(CROSS, 2, 2), 2);
        due.is("24: slow", kindsBySight(CROSS, 5, 2), 4);
        due.is("24: none", kindsBySight(CROSS, 4, 2), 0);
        due.is("24: bold", kindsBySight("l02;t0,1,0,0;", 1, 1), 8);
        due.is("24: any but bold", kindsBySight("l02;t3,1,0,0;", 0, 20), 7);
        WalkingOrchard o = Due.laid(CROSS);
        o.see(0, 5, 1);
        o.see(0, 8, 2);
        due.is("24: both seen", o.fits(0, 1), 9);
        o.see(0, 2, 2);
        due.is("24: not all three", o.fits(0, 1), 0);
    }

    private static void asThingsStand() {
        WalkingOrchard o = Due.laid("l000;l000;l000;t0,1,0,4;t0,1,0,0;");
        o.see(0, 5, 1);
        due.is("24: east", o.fits(0, 0), 2);
        due.is("24: of another row nothing is seen", o.fits(1, 0), 15);
        due.is("24: nor its kind", o.fits(1, 1), 15);
        o.pass(1);
        due.is("24: from how it stands when that is asked", o.fits(0, 0), 0);
        o.undo();
        due.is("24: as ahead of it", o.fits(0, 0), 2);
        o.dig(5);
        due.is("24: with a ditch", o.fits(0, 0), 0);
        o.undo();
        o.pass(1);
        o.forget();
        o.see(0, 5, 1);
        o.see(0, 8, 2);
        due.is("24: a slow one stays in an uneven year first", o.fits(0, 1), 4);
        due.is("24: nothing changes", o.row(0, 0), 0);
        due.is("24: nothing changes", o.row(0, 1), 1);
        o = Due.laid("l000;l000;l000;t0,1,0,4;t0,1,0,0;");
        o.see(1, 3, 1);
        due.is("24: seen of row 1", o.fits(1, 0), 12);
        due.is("24: nothing of row 0", o.fits(0, 0), 15);
        // Row 0 is in the way of row 1 as it goes, whatever way row 1 heads.
        o = Due.laid("l000;t0,1,0,0;t0,3,0,2;");
        o.see(1, 2, 1);
        due.is("24: all others go on", o.fits(1, 0), 15);
    }

    private static void stays() {
        WalkingOrchard o = Due.laid(CROSS);
        o.keep();
        o.see(0, 7, 1);
        o.pass(1);
        o.back();
        due.is("28: what is seen stays by back", o.count(8), 1);
        due.is("28: it is asked as it stands then", o.fits(0, 0), 4);
        o.lay();
        due.is("5: nothing is seen then", o.count(8), 0);
        due.is("5: all fits then", o.fits(0, 0), 15);
    }
}
