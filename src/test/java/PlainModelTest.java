import java.util.Arrays;
import java.util.NoSuchElementException;
import java.util.function.ToIntFunction;

/** Long runs of calls on the class and on the plain model: every answer, and every throw, must be the same. */
public final class PlainModelTest {
    private static final int MOST_CALLS = 512;
    private static final int NO_ELEMENT = 1_000_001;
    private static final int BAD_ARGUMENT = 1_000_002;
    private static final int OTHER_THROW = 1_000_003;
    private static final String[] CALLS = {
        "band", "colour", "row", "knot", "shows", "thread", "used", "home", "unlike",
        "picture", "see", "must", "copy", "starts", "start", "tie", "suspect", "count",
    };
    private static final int[] ODD_NUMBERS = {
        -1, -2, 2, 3, 4, 5, 6, 7, 8, 9, 15, 16, 17, 31, 32, 64, 100, -64, Integer.MAX_VALUE, Integer.MIN_VALUE,
    };

    private final Checks checks;
    private KnotBand bench;
    private PlainModel model;
    private String run;
    private long seed;
    private int calls;

    private PlainModelTest(Checks checks) {
        this.checks = checks;
    }

    public static void main(String[] args) {
        Checks checks = new Checks();
        PlainModelTest test = new PlainModelTest(checks);
        for (int i = 0; i < 120; i++) {
            test.begin("mixed " + i, i);
            test.mixedRun(MOST_CALLS);
        }
        for (int threads = 2; threads <= 6; threads++) {
            for (int i = 0; i < 6 * threads; i++) {
                test.begin("spoilt " + threads + "." + i, 1000 + 100 * threads + i);
                test.spoiltPicture(threads, 1 + test.below(16));
            }
            test.begin("whole " + threads, 3000 + threads);
            test.wholeBand(threads);
            test.begin("untold " + threads, 4000 + threads);
            test.untoldPicture(threads);
        }
        for (int i = 0; i < 300; i++) {
            test.begin("small " + i, 5000 + i);
            test.smallPicture();
        }
        checks.end("PlainModelTest");
    }

    private void begin(String name, long number) {
        bench = new KnotBand();
        model = new PlainModel();
        run = name;
        calls = 0;
        seed = number * 7919 + 17;
        for (int i = 0; i < 8; i++) {
            below(2);
        }
    }

    /** A row of numbers that is the same in every run of the test. */
    private int below(int bound) {
        seed = seed * 6364136223846793005L + 1442695040888963407L;
        return (int) ((seed >>> 33) % bound);
    }

    private void mixedRun(int calls) {
        for (int i = 0; i < calls; i++) {
            String call = CALLS[below(CALLS.length)];
            int[] a = {odd(8), odd(5), odd(4), odd(5)};
            if (call.equals("band") || call.equals("picture")) {
                a[0] = 2 + below(3);
            } else if (below(12) != 0) {
                a[0] = below(4);
            }
            if (call.equals("row") && below(4) != 0) {
                a[1] = below(64);
            }
            if (call.equals("suspect") || call.equals("knot")) {
                a[1] -= below(2);
            }
            if ((call.equals("band") || call.equals("picture")) && below(5) == 0) {
                a[0] = ODD_NUMBERS[below(ODD_NUMBERS.length)];
            }
            both(call, a);
        }
    }

    private int odd(int bound) {
        return below(14) == 0 ? ODD_NUMBERS[below(ODD_NUMBERS.length)] : below(bound);
    }

    /** A picture copied from a band, most of its colours at first told, then a knot or two seen wrong. */
    private void spoiltPicture(int threads, int rows) {
        int[] colours = tieAnyBand(threads, rows);
        both("picture", threads, rows);
        for (int place = 0; place < threads; place++) {
            if (below(4) != 0) {
                both("must", 0, place, below(9) == 0 ? below(5) : colours[place]);
            }
        }
        for (int i = 0; i < 6; i++) {
            both("copy", 0, 0);
            both("see", 0, below(rows), below(3), below(4));
            if (below(2) == 0) {
                both("see", 0, below(rows), below(3), below(5));
            }
            askPicture(0, threads);
            both("tie", 0);
        }
        askBand(1, threads, rows);
    }

    /** A band of all sixteen rows: everything that can be asked of it, and of its picture. */
    private void wholeBand(int threads) {
        tieAnyBand(threads, 16);
        both("row", 0, 0);
        askBand(0, threads, 16);
        both("picture", threads, 16);
        both("copy", 0, 0);
        askPicture(0, threads);
        both("tie", 0);
        askBand(1, threads, 16);
        both("unlike", 0, 1);
        both("knot", 1, 15, 0, 1);
        both("colour", 1, threads - 1, 3);
        both("unlike", 0, 1);
        both("unlike", 1, 0);
    }

    /** A picture of all sixteen rows with nothing told: the band tied of it, beside another one. */
    private void untoldPicture(int threads) {
        tieAnyBand(threads, 16);
        both("picture", threads, 16);
        both("tie", 0);
        askBand(1, threads, 16);
        askPicture(0, threads);
        both("colour", 1, 0, 1);
        both("colour", 1, 1, 2);
        both("unlike", 0, 1);
        both("unlike", 1, 0);
    }

    /** Makes band 0, of any kinds and colours: its colours. */
    private int[] tieAnyBand(int threads, int rows) {
        both("band", threads);
        int[] colours = new int[threads];
        for (int thread = 0; thread < threads; thread++) {
            colours[thread] = below(4);
            both("colour", 0, thread, colours[thread]);
        }
        for (int row = 0; row < rows; row++) {
            both("row", 0, below(1 << 30) - (1 << 29));
        }
        return colours;
    }

    private void askBand(int band, int threads, int rows) {
        for (int row = 0; row <= rows; row++) {
            for (int place = 0; place < threads; place++) {
                both("thread", band, row, place);
            }
            for (int knot = 0; knot < 3; knot++) {
                both("shows", band, row, knot);
                both("knot", band, row, knot, -1);
            }
        }
        for (int thread = 0; thread < threads; thread++) {
            both("used", band, thread);
        }
        both("home", band, 0);
        both("home", band, 1);
    }

    private void askPicture(int picture, int threads) {
        both("starts", picture);
        for (int place = 0; place <= threads; place++) {
            both("start", picture, place);
        }
        int suspects = both("suspect", picture, -1);
        for (int i = 0; i <= suspects; i++) {
            both("suspect", picture, i);
        }
    }

    /** So few knots that all starts and all kinds can be tied, one band after the other, by the model's bands. */
    private void smallPicture() {
        int threads = 2 + below(3);
        int rows = 1 + below(threads == 4 ? 2 : 4);
        both("picture", threads, rows);
        int[][] told = new int[rows][];
        for (int row = 0; row < rows; row++) {
            told[row] = new int[(threads - row % 2) / 2];
            for (int knot = 0; knot < told[row].length; knot++) {
                told[row][knot] = below(5);
                both("see", 0, row, knot, told[row][knot]);
            }
        }
        int tiedStarts = 0;
        int[] first = null;
        int[] firstKinds = null;
        for (int start = 0; start < 1 << (2 * threads); start++) {
            int[] colours = digits(start, threads);
            int[] kinds = firstKinds(colours, told);
            if (kinds != null) {
                tiedStarts++;
                first = first == null ? colours : first;
                firstKinds = firstKinds == null ? kinds : firstKinds;
            }
        }
        checks.same(run + " starts", bench.starts(0), tiedStarts);
        checks.same(run + " tie", both("tie", 0), first == null ? -1 : 0);
        if (first != null) {
            sameBand(first, firstKinds, told);
        }
        askPicture(0, threads);
    }

    private void sameBand(int[] colours, int[] kinds, int[][] told) {
        for (int place = 0; place < colours.length; place++) {
            checks.same(run + " start " + place, bench.start(0, place), colours[place]);
            checks.same(run + " colour " + place, bench.colour(0, place, 0), colours[place]);
        }
        int k = 0;
        for (int row = 0; row < told.length; row++) {
            for (int knot = 0; knot < told[row].length; knot++) {
                checks.same(run + " kind " + row + "." + knot, bench.knot(0, row, knot, -1), kinds[k]);
                k++;
            }
        }
    }

    /** The first kinds, as rows of numbers are ordered, that show what is told; null if none do. */
    private static int[] firstKinds(int[] colours, int[][] told) {
        int knots = Arrays.stream(told).mapToInt(row -> row.length).sum();
        for (int i = 0; i < 1 << (2 * knots); i++) {
            int[] kinds = digits(i, knots);
            if (showsAll(colours, kinds, told)) {
                return kinds;
            }
        }
        return null;
    }

    private static boolean showsAll(int[] start, int[] kinds, int[][] told) {
        int[] colours = start.clone();
        int k = 0;
        for (int row = 0; row < told.length; row++) {
            for (int knot = 0; knot < told[row].length; knot++) {
                int left = 2 * knot + row % 2;
                int shown = colours[kinds[k] % 2 == 0 ? left : left + 1];
                if (told[row][knot] != 4 && told[row][knot] != shown) {
                    return false;
                }
                if (kinds[k] <= 1) {
                    int kept = colours[left];
                    colours[left] = colours[left + 1];
                    colours[left + 1] = kept;
                }
                k++;
            }
        }
        return true;
    }

    private static int[] digits(int number, int length) {
        int[] digits = new int[length];
        for (int i = length - 1; i >= 0; i--) {
            digits[i] = number % 4;
            number /= 4;
        }
        return digits;
    }

    private int both(String call, int... given) {
        calls++;
        if (calls > MOST_CALLS) {
            throw new IllegalStateException(run + " asks more than the document promises an answer to");
        }
        int[] a = Arrays.copyOf(given, 4);
        int want = answer(x -> ofModel(call, x), a);
        int got = answer(x -> ofBench(call, x), a);
        checks.same(run + ": " + call + Arrays.toString(given), got, want);
        return got;
    }

    private static int answer(ToIntFunction<int[]> call, int[] a) {
        try {
            return call.applyAsInt(a);
        } catch (RuntimeException e) {
            if (e.getClass() == NoSuchElementException.class) {
                return NO_ELEMENT;
            }
            return e.getClass() == IllegalArgumentException.class ? BAD_ARGUMENT : OTHER_THROW;
        }
    }

    private int ofBench(String call, int[] a) {
        return switch (call) {
            case "band" -> bench.band(a[0]);
            case "colour" -> bench.colour(a[0], a[1], a[2]);
            case "row" -> bench.row(a[0], a[1]);
            case "knot" -> bench.knot(a[0], a[1], a[2], a[3]);
            case "shows" -> bench.shows(a[0], a[1], a[2]);
            case "thread" -> bench.thread(a[0], a[1], a[2]);
            case "used" -> bench.used(a[0], a[1]);
            case "home" -> bench.home(a[0], a[1]);
            case "unlike" -> bench.unlike(a[0], a[1]);
            case "picture" -> bench.picture(a[0], a[1]);
            case "see" -> bench.see(a[0], a[1], a[2], a[3]);
            case "must" -> bench.must(a[0], a[1], a[2]);
            case "copy" -> bench.copy(a[0], a[1]) ? 1 : 0;
            case "starts" -> bench.starts(a[0]);
            case "start" -> bench.start(a[0], a[1]);
            case "tie" -> bench.tie(a[0]);
            case "suspect" -> bench.suspect(a[0], a[1]);
            default -> bench.count(a[0]);
        };
    }

    private int ofModel(String call, int[] a) {
        return switch (call) {
            case "band" -> model.band(a[0]);
            case "colour" -> model.colour(a[0], a[1], a[2]);
            case "row" -> model.row(a[0], a[1]);
            case "knot" -> model.knot(a[0], a[1], a[2], a[3]);
            case "shows" -> model.shows(a[0], a[1], a[2]);
            case "thread" -> model.thread(a[0], a[1], a[2]);
            case "used" -> model.used(a[0], a[1]);
            case "home" -> model.home(a[0], a[1]);
            case "unlike" -> model.unlike(a[0], a[1]);
            case "picture" -> model.picture(a[0], a[1]);
            case "see" -> model.see(a[0], a[1], a[2], a[3]);
            case "must" -> model.must(a[0], a[1], a[2]);
            case "copy" -> model.copy(a[0], a[1]);
            case "starts" -> model.starts(a[0]);
            case "start" -> model.start(a[0], a[1]);
            case "tie" -> model.tie(a[0]);
            case "suspect" -> model.suspect(a[0], a[1]);
            default -> model.count(a[0]);
        };
    }
}
