/** Each promise of the document by hand: ordinary inputs, the edges that it names, and wrong inputs. */
public final class PromisesTest {
    private static final int[] NO_THREADS = {1, 7, 0, -1, 8, Integer.MIN_VALUE, Integer.MAX_VALUE};
    private static final int[] FAR = {-1, -2, 8, 16, 99, Integer.MIN_VALUE, Integer.MAX_VALUE};

    private final Checks checks = new Checks();
    private KnotBand bench = new KnotBand();

    public static void main(String[] args) {
        PromisesTest test = new PromisesTest();
        test.newObject();
        test.band();
        test.colour();
        test.row();
        test.knot();
        test.shows();
        test.thread();
        test.used();
        test.home();
        test.unlike();
        test.picture();
        test.see();
        test.must();
        test.copy();
        test.starts();
        test.start();
        test.tie();
        test.tieTakesLeastKinds();
        test.suspect();
        test.suspectsTogether();
        test.count();
        test.objectsApart();
        test.checks.end("PromisesTest");
    }

    private void newObject() {
        bench = new KnotBand();
        checks.same("1 no bands", bench.count(0), 0);
        checks.same("1 no pictures", bench.count(1), 0);
        checks.noElement("1 band 0", () -> bench.row(0, 0));
        checks.noElement("1 picture 0", () -> bench.starts(0));
    }

    private void band() {
        bench = new KnotBand();
        for (int threads : NO_THREADS) {
            checks.same("2 band of " + threads, bench.band(threads), -1);
        }
        for (int i = 0; i < 8; i++) {
            checks.same("2 band " + i, bench.band(2 + i % 5), i);
        }
        checks.same("2 a ninth", bench.band(3), -1);
        checks.same("2 a ninth and wrong", bench.band(9), -1);
        checks.same("2 eight stay", bench.count(0), 8);
        for (int i = 0; i < 8; i++) {
            int band = i;
            int threads = 2 + i % 5;
            for (int t = 0; t < threads; t++) {
                checks.same("2 thread at first", bench.thread(band, 0, t), t);
                checks.same("2 colour at first", bench.colour(band, t, 0), 0);
            }
            checks.noElement("2 a thread more", () -> bench.colour(band, threads, 0));
            checks.noElement("2 no row at first", () -> bench.thread(band, 1, 0));
        }
    }

    private void colour() {
        bench = new KnotBand();
        bench.band(3);
        bench.band(6);
        checks.same("3 first", bench.colour(0, 2, 3), 0);
        checks.same("3 again", bench.colour(0, 2, 1), 3);
        checks.same("3 the same", bench.colour(0, 2, 1), 1);
        checks.same("3 another thread", bench.colour(0, 1, 2), 0);
        checks.same("3 another band", bench.colour(1, 2, 2), 0);
        checks.same("3 last thread", bench.colour(1, 5, 2), 0);
        for (int far : FAR) {
            checks.noElement("3 band " + far, () -> bench.colour(far, 0, 0));
            checks.noElement("3 thread " + far, () -> bench.colour(1, far, 0));
            checks.badArgument("3 colour " + far, () -> bench.colour(0, 0, far));
        }
        checks.noElement("3 no such band", () -> bench.colour(2, 0, 0));
        checks.noElement("3 thread 3 of 3", () -> bench.colour(0, 3, 0));
        checks.badArgument("3 colour 4", () -> bench.colour(0, 2, 4));
        checks.same("3 a wrong call changes nothing", bench.colour(0, 2, 0), 1);
    }

    private void row() {
        bench = new KnotBand();
        bench.band(6);
        bench.band(2);
        checks.same("4 first", bench.row(0, 0b100111), 1);
        checks.same("4 kind of knot 0", bench.knot(0, 0, 0, -1), 3);
        checks.same("4 kind of knot 1", bench.knot(0, 0, 1, -1), 1);
        checks.same("4 kind of knot 2", bench.knot(0, 0, 2, -1), 2);
        checks.same("4 second, higher bits", bench.row(0, ~0b1111), 2);
        checks.same("4 its knot 0", bench.knot(0, 1, 0, -1), 0);
        checks.same("4 its knot 1", bench.knot(0, 1, 1, -1), 0);
        checks.same("4 all bits", bench.row(0, -1), 3);
        checks.same("4 their knot 2", bench.knot(0, 2, 2, -1), 3);
        checks.same("4 the sign bit alone", bench.row(0, Integer.MIN_VALUE), 4);
        for (int rows = 5; rows <= 16; rows++) {
            checks.same("4 row " + rows, bench.row(0, 1), rows);
        }
        checks.same("4 a seventeenth", bench.row(0, 2), -1);
        checks.same("4 and again", bench.row(0, 2), -1);
        checks.same("4 the last stays", bench.knot(0, 15, 0, -1), 1);
        checks.noElement("4 no row 16", () -> bench.knot(0, 16, 0, -1));
        checks.same("4 another band has its own", bench.row(1, 0), 1);
        checks.same("4 a row without a knot", bench.row(1, 3), 2);
        for (int far : FAR) {
            checks.noElement("4 band " + far, () -> bench.row(far, 0));
        }
        checks.noElement("4 no such band", () -> bench.row(2, 0));
    }

    private void knot() {
        bench = new KnotBand();
        bench.band(5);
        bench.row(0, 0b1001);
        bench.row(0, 0b0111);
        checks.same("5 stays", bench.knot(0, 0, 0, -1), 1);
        checks.same("5 stayed", bench.knot(0, 0, 0, 0), 1);
        checks.same("5 changed", bench.knot(0, 0, 0, 3), 0);
        checks.same("5 changed again", bench.knot(0, 0, 0, 2), 3);
        checks.same("5 its neighbour is as it was", bench.knot(0, 0, 1, 1), 2);
        checks.same("5 the neighbour changed", bench.knot(0, 0, 1, -1), 1);
        checks.same("5 and not the first", bench.knot(0, 0, 0, -1), 2);
        checks.same("5 the other row's first", bench.knot(0, 1, 0, -1), 3);
        checks.same("5 the other row's second", bench.knot(0, 1, 1, -1), 1);
        checks.noElement("5 knot 2 of an even row of five", () -> bench.knot(0, 0, 2, 0));
        checks.noElement("5 knot 2 of an odd row of five", () -> bench.knot(0, 1, 2, 0));
        checks.noElement("5 row 2", () -> bench.knot(0, 2, 0, 0));
        for (int far : FAR) {
            checks.noElement("5 band " + far, () -> bench.knot(far, 0, 0, 0));
            checks.noElement("5 row " + far, () -> bench.knot(0, far, 0, 0));
            checks.noElement("5 knot " + far, () -> bench.knot(0, 0, far, 0));
            if (far != -1) {
                checks.badArgument("5 kind " + far, () -> bench.knot(0, 0, 0, far));
            }
        }
        checks.badArgument("5 kind 4", () -> bench.knot(0, 0, 0, 4));
        checks.same("5 wrong calls change nothing", bench.knot(0, 0, 0, -1), 2);
        knotsOfEachWidth();
    }

    private void knotsOfEachWidth() {
        int[] even = {1, 1, 2, 2, 3};
        int[] odd = {0, 1, 1, 2, 2};
        bench = new KnotBand();
        for (int threads = 2; threads <= 6; threads++) {
            int band = bench.band(threads);
            bench.row(band, -1);
            bench.row(band, -1);
            for (int row = 0; row < 2; row++) {
                int knots = row == 0 ? even[threads - 2] : odd[threads - 2];
                int here = row;
                for (int knot = 0; knot < knots; knot++) {
                    checks.same("5 knot of " + threads, bench.knot(band, row, knot, -1), 3);
                }
                checks.noElement("5 knots of " + threads, () -> bench.knot(band, here, knots, -1));
            }
        }
    }

    /** Five threads of colours 0 1 2 3 1; row 0 of kinds 0 and 1, row 1 of kinds 2 and 3. */
    private void fiveThreads() {
        bench = new KnotBand();
        bench.band(5);
        for (int thread = 1; thread < 4; thread++) {
            bench.colour(0, thread, thread);
        }
        bench.colour(0, 4, 1);
        bench.row(0, 0b0100);
        bench.row(0, 0b1110);
    }

    private void shows() {
        fiveThreads();
        checks.same("6 left, kind 0", bench.shows(0, 0, 0), 0);
        checks.same("6 right, kind 1", bench.shows(0, 0, 1), 3);
        checks.same("6 left, kind 2", bench.shows(0, 1, 0), 0);
        checks.same("6 right, kind 3", bench.shows(0, 1, 1), 1);
        bench.colour(0, 0, 2);
        checks.same("6 another colour", bench.shows(0, 0, 0), 2);
        checks.same("6 and where it went", bench.shows(0, 1, 0), 2);
        bench.knot(0, 0, 0, 2);
        checks.same("6 it stays, another comes", bench.shows(0, 1, 0), 1);
        bench.knot(0, 0, 0, 3);
        checks.same("6 the right one shows", bench.shows(0, 0, 0), 1);
        checks.noElement("6 knot", () -> bench.shows(0, 1, 2));
        checks.noElement("6 row", () -> bench.shows(0, 2, 0));
        for (int far : FAR) {
            checks.noElement("6 band " + far, () -> bench.shows(far, 0, 0));
            checks.noElement("6 row " + far, () -> bench.shows(0, far, 0));
            checks.noElement("6 knot " + far, () -> bench.shows(0, 0, far));
        }
    }

    private void thread() {
        fiveThreads();
        sameThreads("7 ahead of row 0", 0, 0, 1, 2, 3, 4);
        sameThreads("7 ahead of row 1", 1, 1, 0, 3, 2, 4);
        sameThreads("7 behind the last", 2, 1, 0, 3, 2, 4);
        bench.knot(0, 1, 0, 1);
        bench.knot(0, 1, 1, 0);
        sameThreads("7 both change places", 2, 1, 3, 0, 4, 2);
        sameThreads("7 row 1 is as it was", 1, 1, 0, 3, 2, 4);
        checks.noElement("7 row 3 of 2", () -> bench.thread(0, 3, 0));
        checks.noElement("7 place 5 of 5", () -> bench.thread(0, 0, 5));
        for (int far : FAR) {
            checks.noElement("7 band " + far, () -> bench.thread(far, 0, 0));
            checks.noElement("7 row " + far, () -> bench.thread(0, far, 0));
            checks.noElement("7 place " + far, () -> bench.thread(0, 0, far));
        }
        for (int rows = 3; rows <= 16; rows++) {
            bench.row(0, 2 + 8);
        }
        sameThreads("7 behind the sixteenth", 16, 1, 3, 0, 4, 2);
        checks.noElement("7 row 17 of 16", () -> bench.thread(0, 17, 0));
    }

    private void sameThreads(String what, int row, int... threads) {
        for (int place = 0; place < threads.length; place++) {
            checks.same(what + ", place " + place, bench.thread(0, row, place), threads[place]);
        }
    }

    private void used() {
        fiveThreads();
        int[] due = {10, 1, 2, 6, 5};
        for (int thread = 0; thread < due.length; thread++) {
            checks.same("8 thread " + thread, bench.used(0, thread), due[thread]);
            checks.same("8 the same again", bench.used(0, thread), due[thread]);
        }
        bench.band(6);
        checks.same("8 no rows", bench.used(1, 5), 0);
        bench.band(2);
        for (int rows = 1; rows <= 16; rows++) {
            bench.row(2, 2);
        }
        checks.same("8 eight knots shown", bench.used(2, 0), 40);
        checks.same("8 eight knots hidden", bench.used(2, 1), 8);
        checks.noElement("8 thread 5 of 5", () -> bench.used(0, 5));
        for (int far : FAR) {
            checks.noElement("8 band " + far, () -> bench.used(far, 0));
            checks.noElement("8 thread " + far, () -> bench.used(0, far));
        }
    }

    private void home() {
        bench = new KnotBand();
        bench.band(6);
        checks.same("9 no rows", bench.home(0, 0), 1);
        bench.row(0, 0);
        checks.same("9 odd", bench.home(0, 0), -1);
        checks.same("9 odd, in colour", bench.home(0, 1), -1);
        checks.noElement("9 odd, another what", () -> bench.home(0, 2));
        bench.row(0, 0);
        // The places follow one another as 0 1 3 5 4 2.
        checks.same("9 round all six", bench.home(0, 0), 6);
        checks.same("9 all of one colour", bench.home(0, 1), 1);
        sameHomeInColour(2, 0, 1, 1, 0, 0, 1);
        sameHomeInColour(3, 0, 1, 2, 2, 1, 0);
        sameHomeInColour(6, 0, 0, 1, 0, 0, 0);
        checks.same("9 the threads as before", bench.home(0, 0), 6);
        bench.band(5);
        bench.row(1, 0);
        bench.row(1, 0);
        checks.same("9 round all five", bench.home(1, 0), 5);
        bench.knot(1, 1, 0, 2);
        checks.same("9 three and two", bench.home(1, 0), 6);
        bench.band(2);
        bench.row(2, 3);
        bench.row(2, 0);
        checks.same("9 they stay", bench.home(2, 0), 1);
        bench.knot(2, 0, 0, 1);
        checks.same("9 they change", bench.home(2, 0), 2);
        for (int far : FAR) {
            checks.noElement("9 band " + far, () -> bench.home(far, 0));
            checks.noElement("9 what " + far, () -> bench.home(0, far));
        }
        checks.noElement("9 what 2", () -> bench.home(0, 2));
    }

    private void sameHomeInColour(int due, int... colours) {
        for (int thread = 0; thread < colours.length; thread++) {
            bench.colour(0, thread, colours[thread]);
        }
        checks.same("9 in colour", bench.home(0, 1), due);
    }

    private void unlike() {
        fiveThreads();
        bench.band(5);
        checks.badArgument("10 rows", () -> bench.unlike(0, 1));
        bench.row(1, 0);
        bench.row(1, 0);
        checks.same("10 3 and 1 are unlike 0", bench.unlike(0, 1), 2);
        checks.same("10 the other way", bench.unlike(1, 0), 2);
        checks.same("10 itself", bench.unlike(0, 0), 0);
        bench.colour(1, 2, 3);
        bench.knot(1, 0, 1, 2);
        checks.same("10 other kinds, like colour", bench.unlike(0, 1), 1);
        bench.colour(0, 0, 1);
        checks.same("10 more unlike", bench.unlike(0, 1), 3);
        bench.band(4);
        bench.row(2, 0);
        bench.row(2, 0);
        checks.badArgument("10 threads", () -> bench.unlike(0, 2));
        checks.badArgument("10 threads, the other way", () -> bench.unlike(2, 0));
        bench.row(1, 0);
        checks.badArgument("10 a row more", () -> bench.unlike(1, 0));
        bench.band(6);
        bench.band(6);
        checks.same("10 no rows", bench.unlike(3, 4), 0);
        for (int thread = 0; thread < 6; thread++) {
            bench.colour(4, thread, 1);
        }
        for (int rows = 1; rows <= 16; rows++) {
            bench.row(3, 0);
            bench.row(4, 0);
            checks.same("10 all of " + rows + " rows", bench.unlike(3, 4), 3 * rows - rows / 2);
        }
        for (int far : FAR) {
            checks.noElement("10 band " + far, () -> bench.unlike(far, 0));
            checks.noElement("10 other " + far, () -> bench.unlike(0, far));
        }
    }

    private void picture() {
        bench = new KnotBand();
        for (int threads : NO_THREADS) {
            checks.same("11 threads " + threads, bench.picture(threads, 1), -1);
        }
        int[] noRows = {0, 17, -1, Integer.MIN_VALUE, Integer.MAX_VALUE};
        for (int rows : noRows) {
            checks.same("11 rows " + rows, bench.picture(2, rows), -1);
        }
        checks.same("11 the least", bench.picture(2, 1), 0);
        checks.same("11 the most", bench.picture(6, 16), 1);
        for (int i = 2; i < 8; i++) {
            checks.same("11 picture " + i, bench.picture(3, i), i);
        }
        checks.same("11 a ninth", bench.picture(3, 3), -1);
        checks.same("11 eight stay", bench.count(1), 8);
        checks.same("11 no bands of it", bench.count(0), 0);
        for (int place = 0; place < 6; place++) {
            checks.same("11 no colour must be", bench.must(1, place, 4), 4);
        }
        for (int row = 0; row < 16; row++) {
            for (int knot = 0; knot < 3 - row % 2; knot++) {
                checks.same("11 none told", bench.see(1, row, knot, 4), 4);
            }
        }
    }

    private void see() {
        bench = new KnotBand();
        bench.picture(6, 16);
        bench.picture(2, 2);
        checks.same("12 none at first", bench.see(0, 15, 1, 3), 4);
        checks.same("12 what it was", bench.see(0, 15, 1, 0), 3);
        checks.same("12 none again", bench.see(0, 15, 1, 4), 0);
        checks.same("12 none was", bench.see(0, 15, 1, 4), 4);
        checks.same("12 another row", bench.see(0, 14, 2, 2), 4);
        checks.same("12 another knot", bench.see(0, 14, 1, 1), 4);
        checks.same("12 another picture", bench.see(1, 0, 0, 1), 4);
        checks.noElement("12 knot 2 of an odd row", () -> bench.see(0, 15, 2, 0));
        checks.noElement("12 knot 3 of an even row", () -> bench.see(0, 14, 3, 0));
        checks.noElement("12 row 16", () -> bench.see(0, 16, 0, 0));
        checks.noElement("12 row 2 of 2", () -> bench.see(1, 2, 0, 0));
        checks.noElement("12 a row without knots", () -> bench.see(1, 1, 0, 0));
        checks.noElement("12 picture 2", () -> bench.see(2, 0, 0, 0));
        for (int far : FAR) {
            checks.noElement("12 picture " + far, () -> bench.see(far, 0, 0, 0));
            checks.noElement("12 row " + far, () -> bench.see(1, far, 0, 0));
            checks.noElement("12 knot " + far, () -> bench.see(0, 0, far, 0));
            checks.badArgument("12 colour " + far, () -> bench.see(0, 14, 2, far));
        }
        checks.badArgument("12 colour 5", () -> bench.see(0, 14, 2, 5));
        checks.same("12 wrong calls change nothing", bench.see(0, 14, 2, 4), 2);
    }

    private void must() {
        bench = new KnotBand();
        bench.picture(3, 1);
        checks.same("13 any at first", bench.must(0, 2, 3), 4);
        checks.same("13 what it was", bench.must(0, 2, 0), 3);
        checks.same("13 another place", bench.must(0, 0, 1), 4);
        checks.same("13 any again", bench.must(0, 2, 4), 0);
        checks.same("13 any was", bench.must(0, 2, 2), 4);
        checks.noElement("13 place 3 of 3", () -> bench.must(0, 3, 0));
        checks.noElement("13 picture 1", () -> bench.must(1, 0, 0));
        for (int far : FAR) {
            checks.noElement("13 picture " + far, () -> bench.must(far, 0, 0));
            checks.noElement("13 place " + far, () -> bench.must(0, far, 0));
            checks.badArgument("13 colour " + far, () -> bench.must(0, 2, far));
        }
        checks.badArgument("13 colour 5", () -> bench.must(0, 2, 5));
        checks.same("13 wrong calls change nothing", bench.must(0, 2, 4), 2);
        checks.same("13 the starts keep to it", bench.starts(0), 16);
    }

    private void copy() {
        fiveThreads();
        bench.picture(5, 2);
        bench.must(0, 3, 2);
        bench.see(0, 0, 1, 1);
        checks.same("14 copied", bench.copy(0, 0) ? 1 : 0, 1);
        checks.same("14 knot 0", bench.see(0, 0, 0, 4), 0);
        checks.same("14 knot 1", bench.see(0, 0, 1, 4), 3);
        checks.same("14 row 1", bench.see(0, 1, 0, 4), 0);
        checks.same("14 row 1, knot 1", bench.see(0, 1, 1, 4), 1);
        checks.same("14 what must be stays", bench.must(0, 3, 2), 2);
        bench.copy(0, 0);
        bench.colour(0, 0, 2);
        checks.same("14 the band's changes are its own", bench.see(0, 0, 0, 0), 0);
        bench.picture(4, 2);
        bench.picture(5, 3);
        bench.see(2, 2, 1, 3);
        checks.same("14 unlike threads", bench.copy(1, 0) ? 1 : 0, 0);
        checks.same("14 unlike rows", bench.copy(2, 0) ? 1 : 0, 0);
        checks.same("14 then nothing changes", bench.see(2, 2, 1, 3), 3);
        checks.same("14 nor is told", bench.see(2, 0, 0, 4), 4);
        bench.row(0, 0);
        checks.same("14 a row more", bench.copy(2, 0) ? 1 : 0, 1);
        for (int far : FAR) {
            checks.noElement("14 picture " + far, () -> bench.copy(far, 0) ? 1 : 0);
            checks.noElement("14 band " + far, () -> bench.copy(0, far) ? 1 : 0);
        }
    }

    private void starts() {
        bench = new KnotBand();
        for (int threads = 2; threads <= 6; threads++) {
            int picture = bench.picture(threads, 16);
            checks.same("15 nothing told", bench.starts(picture), 1 << (2 * threads));
            for (int knot = 0; knot < threads / 2; knot++) {
                bench.see(picture, 0, knot, 3);
                checks.same("15 one of two has it", bench.starts(picture), 7 << (2 * (threads - 2)));
                bench.see(picture, 0, knot, 4);
            }
        }
        // Three threads, of which row 1 may tie any: whoever has the colour can come there.
        bench.see(1, 1, 0, 2);
        checks.same("15 any of three has it", bench.starts(1), 64 - 27);
        bench.must(1, 0, 2);
        checks.same("15 the first must have it", bench.starts(1), 16);
        bench.must(1, 0, 1);
        checks.same("15 one of the others has it", bench.starts(1), 7);
        bench.must(1, 1, 1);
        bench.must(1, 2, 1);
        checks.same("15 none has it", bench.starts(1), 0);
        bench.see(1, 1, 0, 1);
        checks.same("15 all have it", bench.starts(1), 1);
        for (int far : FAR) {
            checks.noElement("15 picture " + far, () -> bench.starts(far));
        }
        checks.noElement("15 picture 5", () -> bench.starts(5));
    }

    private void start() {
        bench = new KnotBand();
        bench.picture(6, 16);
        sameStart("16 nothing told", 0, 0, 0, 0, 0, 0);
        bench.see(0, 14, 2, 3);
        sameStart("16 the last place", 0, 0, 0, 0, 0, 3);
        bench.see(0, 0, 0, 2);
        sameStart("16 and the second", 0, 2, 0, 0, 0, 3);
        bench.see(0, 0, 1, 1);
        sameStart("16 and the fourth", 0, 2, 0, 1, 0, 3);
        bench.must(0, 5, 1);
        sameStart("16 the last place is told", 0, 2, 0, 1, 3, 1);
        bench.must(0, 1, 0);
        sameStart("16 the second is told", 2, 0, 0, 1, 3, 1);
        bench.must(0, 0, 0);
        sameStart("16 there is none", -1, -1, -1, -1, -1, -1);
        checks.noElement("16 no such place, none can be", () -> bench.start(0, 6));
        bench.must(0, 0, 4);
        checks.noElement("16 no such place", () -> bench.start(0, 6));
        for (int far : FAR) {
            checks.noElement("16 picture " + far, () -> bench.start(far, 0));
            checks.noElement("16 place " + far, () -> bench.start(0, far));
        }
        bench.picture(2, 1);
        checks.noElement("16 place 2 of 2", () -> bench.start(1, 2));
    }

    private void sameStart(String what, int... colours) {
        for (int place = 0; place < colours.length; place++) {
            checks.same(what + ", place " + place, bench.start(0, place), colours[place]);
        }
    }

    private void tie() {
        bench = new KnotBand();
        bench.band(4);
        bench.picture(2, 1);
        bench.see(0, 0, 0, 3);
        checks.same("17 behind the others", bench.tie(0), 1);
        checks.same("17 its left colour", bench.colour(1, 0, 0), 0);
        checks.same("17 its right colour", bench.colour(1, 1, 3), 3);
        checks.same("17 its kind", bench.knot(1, 0, 0, -1), 1);
        checks.same("17 it shows the picture", bench.shows(1, 0, 0), 3);
        checks.same("17 its rows", bench.row(1, 0), 2);
        bench.colour(1, 1, 1);
        checks.same("17 the picture is its own", bench.start(0, 1), 3);
        bench.must(0, 0, 3);
        checks.same("17 tied again", bench.tie(0), 2);
        checks.same("17 the left shows", bench.knot(2, 0, 0, -1), 0);
        checks.same("17 of its colour", bench.colour(2, 0, 3), 3);
        checks.same("17 the earlier one stays", bench.knot(1, 0, 0, -1), 1);
        bench.must(0, 0, 1);
        bench.must(0, 1, 2);
        checks.same("17 it can't", bench.tie(0), -1);
        checks.same("17 then there is no band more", bench.count(0), 3);
        bench.must(0, 1, 4);
        for (int i = 3; i < 8; i++) {
            checks.same("17 up to eight", bench.tie(0), i);
        }
        checks.same("17 no ninth", bench.tie(0), -1);
        checks.same("17 eight stay", bench.count(0), 8);
        for (int far : FAR) {
            checks.noElement("17 picture " + far, () -> bench.tie(far));
        }
    }

    private void tieTakesLeastKinds() {
        bench = new KnotBand();
        bench.picture(3, 2);
        bench.must(0, 0, 1);
        bench.must(0, 1, 2);
        bench.must(0, 2, 3);
        sameKinds("17 nothing told", 0, 0);
        bench.see(0, 1, 0, 2);
        sameKinds("17 it must stay", 2, 0);
        bench.see(0, 0, 0, 2);
        sameKinds("17 the right must show and stay", 3, 0);
        bench.see(0, 0, 0, 1);
        sameKinds("17 the left must show and stay", 2, 0);
        bench.see(0, 1, 0, 3);
        sameKinds("17 the right at last", 0, 1);
        bench.see(0, 1, 0, 1);
        sameKinds("17 the left goes on", 0, 0);
        bench.see(0, 0, 0, 2);
        sameKinds("17 the right shows", 1, 0);
    }

    /** Ties picture 0 of three threads and two rows, and asks its two knots. */
    private void sameKinds(String what, int first, int second) {
        int band = bench.tie(0);
        checks.same(what + ", row 0", bench.knot(band, 0, 0, -1), first);
        checks.same(what + ", row 1", bench.knot(band, 1, 0, -1), second);
    }

    private void suspect() {
        bench = new KnotBand();
        bench.picture(6, 16);
        checks.same("18 none if it can be tied", bench.suspect(0, -1), 0);
        checks.noElement("18 nor a first", () -> bench.suspect(0, 0));
        for (int place = 0; place < 6; place++) {
            bench.must(0, place, 0);
        }
        bench.see(0, 0, 0, 0);
        bench.see(0, 14, 2, 1);
        checks.same("18 the wrong one alone", bench.suspect(0, -1), 1);
        checks.same("18 row 14, knot 2", bench.suspect(0, 0), 114);
        checks.noElement("18 no second", () -> bench.suspect(0, 1));
        bench.see(0, 14, 2, 0);
        bench.see(0, 15, 1, 3);
        checks.same("18 row 15, knot 1", bench.suspect(0, 0), 121);
        bench.see(0, 0, 0, 2);
        checks.same("18 two that are both wrong", bench.suspect(0, -1), 0);
        checks.same("18 it can't be tied all the same", bench.starts(0), 0);
        checks.noElement("18 so no first", () -> bench.suspect(0, 0));
        bench.see(0, 15, 1, 4);
        checks.same("18 one is left", bench.suspect(0, -1), 1);
        checks.same("18 row 0, knot 0", bench.suspect(0, 0), 0);
        bench.must(0, 5, 4);
        checks.same("18 elsewhere any colour is no help", bench.suspect(0, -1), 1);
        bench.must(0, 1, 4);
        checks.same("18 there it is", bench.suspect(0, -1), 0);
        for (int far : FAR) {
            checks.noElement("18 picture " + far, () -> bench.suspect(far, -1));
            if (far != -1) {
                checks.noElement("18 suspect " + far, () -> bench.suspect(0, far));
            }
        }
    }

    /** Three threads, 3 and 0 at the sides: row 0 wishes that 1 is between them, row 1 that 2 is; it can't be both. */
    private void suspectsTogether() {
        bench = new KnotBand();
        bench.picture(3, 4);
        bench.must(0, 0, 3);
        bench.must(0, 2, 0);
        bench.see(0, 0, 0, 1);
        bench.see(0, 1, 0, 2);
        bench.see(0, 2, 0, 3);
        checks.same("18 either of two", bench.suspect(0, -1), 2);
        checks.same("18 the first", bench.suspect(0, 0), 0);
        checks.same("18 the second", bench.suspect(0, 1), 8);
        checks.noElement("18 no third", () -> bench.suspect(0, 2));
        checks.noElement("18 far below", () -> bench.suspect(0, -2));
        bench.see(0, 3, 0, 2);
        checks.same("18 two say the same", bench.suspect(0, -1), 1);
        checks.same("18 so the first is wrong", bench.suspect(0, 0), 0);
    }

    private void count() {
        bench = new KnotBand();
        bench.band(2);
        bench.band(1);
        bench.picture(2, 2);
        bench.picture(2, 0);
        checks.same("19 bands", bench.count(0), 1);
        checks.same("19 pictures", bench.count(1), 1);
        bench.tie(0);
        bench.picture(6, 1);
        bench.picture(6, 1);
        checks.same("19 bands, a tied one too", bench.count(0), 2);
        checks.same("19 more pictures", bench.count(1), 3);
        for (int far : FAR) {
            checks.noElement("19 what " + far, () -> bench.count(far));
        }
        checks.noElement("19 what 2", () -> bench.count(2));
    }

    private void objectsApart() {
        KnotBand one = new KnotBand();
        KnotBand two = new KnotBand();
        one.band(3);
        one.picture(3, 3);
        checks.same("1 another object's bands", two.count(0), 0);
        checks.same("1 another object's pictures", two.count(1), 0);
        two.picture(3, 3);
        two.see(0, 0, 0, 1);
        checks.same("1 its own picture", two.starts(0), 28);
        checks.same("1 another object's picture", one.starts(0), 64);
    }
}
