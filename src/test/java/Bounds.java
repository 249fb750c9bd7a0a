import java.util.NoSuchElementException;
import java.util.StringJoiner;
import java.util.function.IntSupplier;

/** What the tests of the document's boundary cases share. */
abstract class Bounds {
    static final int NONE = -1;
    static final int UNTOLD = 4;
    static final int STAY_LEFT = 2;
    static final int STAY_ALL_LEFT = 0b101010;
    /** How many knots bands of 2 to 6 threads have in an even and in an odd row, counted by hand. */
    private static final int[] EVEN_KNOTS = {1, 1, 2, 2, 3};
    private static final int[] ODD_KNOTS = {0, 1, 1, 2, 2};

    final Checks checks;
    private final Document document;
    /** The object asked; a new one for each sentence, since none is used for more than 512 calls. */
    KnotBand bench = new KnotBand();

    Bounds(Checks checks, Document document) {
        this.checks = checks;
        this.document = document;
    }

    /** Runs tests, each of which begins with its sentence. */
    void each(Runnable... tests) {
        for (Runnable test : tests) {
            checks.alone(test);
        }
    }

    /** The checks that follow are those of this sentence. */
    void sentence(String section, String words) {
        checks.about(section + ", '" + words + "'");
        checks.same("the document has it", document.has(section, words) ? 1 : 0, 1);
        document.quote(section, words);
        bench = new KnotBand();
    }

    /**
     * The numbers next to the bounds, and far ones: the ends of int, and those that would be allowed if some of their
     * bits were dropped.
     */
    static int[] beyond(int least, int most) {
        return new int[] {
            least - 1, most + 1, least - 256, least + 256, least + 65536, Integer.MIN_VALUE, Integer.MAX_VALUE,
        };
    }

    static int knotsOf(int threads, int row) {
        return (row % 2 == 0 ? EVEN_KNOTS : ODD_KNOTS)[threads - 2];
    }

    static int[] list(int... numbers) {
        return numbers;
    }

    void addRows(int band, int rows, int kinds) {
        for (int i = 0; i < rows; i++) {
            bench.row(band, kinds);
        }
    }

    void setColours(int band, int... colours) {
        for (int thread = 0; thread < colours.length; thread++) {
            bench.colour(band, thread, colours[thread]);
        }
    }

    void setMust(int picture, int... colours) {
        for (int place = 0; place < colours.length; place++) {
            bench.must(picture, place, colours[place]);
        }
    }

    void sameThreads(String what, int band, int row, int... threads) {
        for (int place = 0; place < threads.length; place++) {
            checks.same(what + ", place " + place, bench.thread(band, row, place), threads[place]);
        }
    }

    void sameStart(String what, int picture, int... colours) {
        for (int place = 0; place < colours.length; place++) {
            checks.same(what + ", place " + place, bench.start(picture, place), colours[place]);
        }
    }

    /** The suspects of picture 0. */
    void sameSuspects(String what, int... due) {
        checks.same(what + ", how many", bench.suspect(0, NONE), due.length);
        for (int i = 0; i < due.length; i++) {
            checks.same(what + ", suspect " + i, bench.suspect(0, i), due[i]);
        }
        checks.noElement(what + ", a suspect more", () -> bench.suspect(0, due.length));
    }

    int copied(int picture, int band) {
        return bench.copy(picture, band) ? 1 : 0;
    }

    /**
     * Band 0, of 3 threads and 2 rows; picture 0, of as many, that can be tied; picture 1, of 2 threads and 1 row, that
     * can't be. All that is in it differs from what is in a new one.
     */
    void smallBench() {
        bench = new KnotBand();
        bench.band(3);
        setColours(0, 3, 1, 2);
        bench.row(0, 1);
        bench.row(0, 2);
        bench.picture(3, 2);
        bench.must(0, 0, 1);
        bench.see(0, 0, 0, 2);
        bench.see(0, 1, 0, 3);
        bench.picture(2, 1);
        setMust(1, 1, 2);
        bench.see(1, 0, 0, 0);
    }

    /** Everything that can be asked of the small bench, in some 60 calls; what is changed to be seen is put back. */
    String smallState() {
        StringJoiner state = new StringJoiner(" ");
        state.add("counts").add(answer(() -> bench.count(0))).add(answer(() -> bench.count(1)));
        addBandState(state);
        addPictureState(state, 0, 3, 2);
        addPictureState(state, 1, 2, 1);
        return state.toString();
    }

    private void addBandState(StringJoiner state) {
        state.add("band");
        for (int i = 0; i < 3; i++) {
            int thread = i;
            int colour = bench.colour(0, thread, 0);
            bench.colour(0, thread, colour);
            state.add("" + colour).add(answer(() -> bench.used(0, thread)));
        }
        for (int i = 0; i <= 3; i++) {
            int row = i;
            state.add(answer(() -> bench.knot(0, row, 0, NONE))).add(answer(() -> bench.shows(0, row, 0)));
            for (int j = 0; j < 3; j++) {
                int place = j;
                state.add(answer(() -> bench.thread(0, row, place)));
            }
        }
        state.add(answer(() -> bench.home(0, 0))).add(answer(() -> bench.home(0, 1)));
    }

    private void addPictureState(StringJoiner state, int picture, int threads, int rows) {
        state.add("picture").add(answer(() -> bench.starts(picture))).add(answer(() -> bench.suspect(picture, NONE)));
        for (int i = 0; i < threads; i++) {
            int place = i;
            state.add(answer(() -> bench.start(picture, place)));
            int colour = bench.must(picture, place, 4);
            bench.must(picture, place, colour);
            state.add("" + colour);
        }
        for (int row = 0; row < rows; row++) {
            int colour = bench.see(picture, row, 0, 4);
            bench.see(picture, row, 0, colour);
            state.add("" + colour);
        }
    }

    private static String answer(IntSupplier call) {
        try {
            return "" + call.getAsInt();
        } catch (NoSuchElementException e) {
            return "none";
        }
    }

    /** The calls, all of which check that they are refused, leave the small bench as it was. */
    void refusedOnSmallBench(Runnable calls) {
        smallBench();
        String before = smallState();
        calls.run();
        checks.sameText("what is there behind the refused calls", smallState(), before);
    }
}
