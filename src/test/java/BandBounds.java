/** The boundary cases of promises 1 to 10 and 19: bands. */
final class BandBounds extends Bounds {
    BandBounds(Checks checks, Document document) {
        super(checks, document);
    }

    void run() {
        promisesOfMaking();
        promisesOfKnots();
        promisesOfAsking();
    }

    private void promisesOfMaking() {
        each(
            this::newObject, this::bandNumber, this::bandNone, this::colourWas, this::colourNoElement,
            this::colourBadArgument, this::rowBits, this::rowNone);
    }

    private void promisesOfKnots() {
        each(
            this::knotWas, this::knotNoElement, this::knotBadArgument, this::shows, this::thread,
            this::threadNoElement, this::used);
    }

    private void promisesOfAsking() {
        each(
            this::home, this::homeNone, this::homeNoElement, this::unlike, this::unlikeBadArgument, this::count,
            this::countNoElement);
    }

    private void newObject() {
        sentence("Promise 1", "No BANDS, PICTURES.");
        checks.same("bands", bench.count(0), 0);
        checks.same("pictures", bench.count(1), 0);
        noSuchBand(0);
        checks.noElement("see", () -> bench.see(0, 0, 0, 0));
        checks.noElement("must", () -> bench.must(0, 0, 0));
        checks.noElement("starts", () -> bench.starts(0));
        checks.noElement("start", () -> bench.start(0, 0));
        checks.noElement("tie", () -> bench.tie(0));
        checks.noElement("suspect", () -> bench.suspect(0, 0));
        checks.noElement("how many suspects", () -> bench.suspect(0, NONE));
        checks.same("still no bands", bench.count(0), 0);
        checks.same("still no pictures", bench.count(1), 0);
        KnotBand other = new KnotBand();
        other.band(2);
        other.picture(2, 1);
        checks.same("another object's band", bench.count(0), 0);
        checks.same("another object's picture", bench.count(1), 0);
    }

    private void noSuchBand(int far) {
        checks.noElement("colour of band " + far, () -> bench.colour(far, 0, 0));
        checks.noElement("row of band " + far, () -> bench.row(far, 0));
        checks.noElement("knot of band " + far, () -> bench.knot(far, 0, 0, 0));
        checks.noElement("knot's kind of band " + far, () -> bench.knot(far, 0, 0, NONE));
        checks.noElement("shows of band " + far, () -> bench.shows(far, 0, 0));
        checks.noElement("thread of band " + far, () -> bench.thread(far, 0, 0));
        checks.noElement("used of band " + far, () -> bench.used(far, 0));
        checks.noElement("home of band " + far, () -> bench.home(far, 0));
        checks.noElement("unlike of band " + far, () -> bench.unlike(far, 0));
        checks.noElement("unlike to band " + far, () -> bench.unlike(0, far));
        checks.noElement("unlike of itself, band " + far, () -> bench.unlike(far, far));
        checks.noElement("copy of band " + far, () -> copied(0, far));
    }

    private void bandNumber() {
        sentence("Promise 2", "A BAND: its number.");
        checks.same("the first, of the least", bench.band(2), 0);
        for (int band = 1; band < 7; band++) {
            checks.same("the next", bench.band(4), band);
        }
        checks.same("the last, of the most", bench.band(6), 7);
    }

    private void bandNone() {
        sentence("Promise 2", "NONE: there are 8, or threads are not as told.");
        for (int threads : beyond(2, 6)) {
            checks.same(threads + " threads", bench.band(threads), NONE);
        }
        checks.same("no threads", bench.band(0), NONE);
        checks.same("none was made", bench.count(0), 0);
        for (int band = 0; band < 8; band++) {
            checks.same("up to eight", bench.band(6), band);
        }
        for (int threads = 0; threads <= 8; threads++) {
            checks.same("a ninth, of " + threads, bench.band(threads), NONE);
        }
        checks.same("eight stay", bench.count(0), 8);
        checks.same("the last of six threads", bench.used(7, 5), 0);
        refusedOnSmallBench(() -> checks.same("7 threads", bench.band(7), NONE));
    }

    private void colourWas() {
        sentence("Promise 3", "The COLOUR of a THREAD is another one: what it was.");
        bench.band(2);
        bench.band(6);
        for (int colour = 0; colour < 4; colour++) {
            checks.same("the first thread", bench.colour(0, 0, colour), Math.max(colour - 1, 0));
            checks.same("the last thread", bench.colour(1, 5, colour), Math.max(colour - 1, 0));
        }
        checks.same("the same again", bench.colour(1, 5, 3), 3);
        checks.same("from the most to the least", bench.colour(1, 5, 0), 3);
        checks.same("the least", bench.colour(1, 5, 0), 0);
        checks.same("the thread beside it", bench.colour(1, 4, 0), 0);
        checks.same("the other band's", bench.colour(0, 1, 0), 0);
    }

    private void colourNoElement() {
        sentence("Promise 3", "NoSuchElementException: no such BAND, THREAD (as everywhere).");
        refusedOnSmallBench(() -> {
            for (int far : beyond(0, 0)) {
                noSuchBand(far);
            }
            noSuchThread(0, 3);
        });
        bench = new KnotBand();
        bench.picture(2, 1);
        for (int i = 0; i < 8; i++) {
            noSuchBand(i);
            bench.band(2);
            bench.row(i, 0);
        }
        noSuchBand(8);
        noSuchBand(-1);
        bench = new KnotBand();
        for (int threads = 2; threads <= 6; threads++) {
            noSuchThread(bench.band(threads), threads);
        }
    }

    private void noSuchThread(int band, int threads) {
        for (int far : beyond(0, threads - 1)) {
            checks.noElement("colour of thread " + far + " of " + threads, () -> bench.colour(band, far, 1));
            checks.noElement("used of thread " + far + " of " + threads, () -> bench.used(band, far));
        }
    }

    private void colourBadArgument() {
        sentence("Promise 3", "IllegalArgumentException: no such COLOUR.");
        refusedOnSmallBench(() -> {
            for (int far : beyond(0, 3)) {
                checks.badArgument("colour " + far, () -> bench.colour(0, 0, far));
                checks.badArgument("colour " + far + " of the last", () -> bench.colour(0, 2, far));
            }
        });
    }

    private void rowBits() {
        sentence("Promise 4", "A ROW more: the KIND of KNOT k in bits 2 k and 2 k + 1 (higher bits aren't asked): how "
            + "many there are.");
        for (int threads = 2; threads <= 6; threads++) {
            bench = new KnotBand();
            for (int told = 0; told < 3; told++) {
                rowBitsOfKnot(bench.band(threads), threads, told);
            }
            rowBitsAbove(bench.band(threads), threads);
        }
        bench = new KnotBand();
        bench.band(2);
        bench.row(0, ~0b11);
        checks.same("higher bits: the left one shows", bench.used(0, 0), 5);
        bench.row(0, -1);
        sameThreads("a row without knots", 0, 2, 1, 0);
        checks.same("a row without knots uses nothing", bench.used(0, 0), 5);
    }

    /** In an even and an odd row each, this knot is of each kind, the others of kind 0. */
    private void rowBitsOfKnot(int band, int threads, int told) {
        for (int row = 0; row < 8; row++) {
            int kind = row / 2;
            checks.same("how many", bench.row(band, kind << (2 * told)), row + 1);
            for (int knot = 0; knot < knotsOf(threads, row); knot++) {
                checks.same("kind " + kind + " told of knot " + told + ": knot " + knot,
                    bench.knot(band, row, knot, NONE), knot == told ? kind : 0);
            }
        }
    }

    /** Bits above those of the last knot, set or not, tell nothing. */
    private void rowBitsAbove(int band, int threads) {
        for (int row = 0; row < 12; row++) {
            int knots = knotsOf(threads, row);
            int[] given = {-1, Integer.MAX_VALUE, Integer.MIN_VALUE, 0, -1 << (2 * knots), 1 << (2 * knots)};
            int kinds = given[row / 2];
            checks.same("how many", bench.row(band, kinds), row + 1);
            for (int knot = 0; knot < knots; knot++) {
                checks.same("row of " + kinds + ", knot " + knot, bench.knot(band, row, knot, NONE), row < 4 ? 3 : 0);
            }
        }
    }

    private void rowNone() {
        sentence("Promise 4", "NONE: there are 16.");
        bench.band(6);
        bench.band(6);
        for (int rows = 1; rows <= 16; rows++) {
            checks.same("up to sixteen", bench.row(0, 0b111111), rows);
        }
        for (int kinds = 0; kinds < 4; kinds++) {
            checks.same("a seventeenth", bench.row(0, kinds), NONE);
        }
        for (int row = 0; row < 16; row++) {
            for (int knot = 0; knot < knotsOf(6, row); knot++) {
                checks.same("what was there stays", bench.knot(0, row, knot, NONE), 3);
            }
        }
        checks.noElement("no row 16", () -> bench.shows(0, 16, 0));
        checks.same("another band's first", bench.row(1, 0), 1);
        bench.picture(6, 16);
        checks.same("nor in one that was tied of 16 rows", bench.row(bench.tie(0), 0), NONE);
        bench.picture(6, 15);
        int band = bench.tie(1);
        checks.same("one more in one of 15", bench.row(band, 0), 16);
        checks.same("and no more", bench.row(band, 0), NONE);
        everythingFull();
    }

    private void everythingFull() {
        bench = new KnotBand();
        for (int i = 0; i < 8; i++) {
            bench.band(6);
            addRows(i, 16, 0b010101 * (i % 4));
            bench.picture(6, 16);
        }
        for (int i = 0; i < 8; i++) {
            checks.same("all full: a row", bench.row(i, 0), NONE);
            checks.same("all full: a band", bench.band(6), NONE);
            checks.same("all full: a picture", bench.picture(6, 16), NONE);
            checks.same("all full: a tied band", bench.tie(i), NONE);
        }
        for (int i = 0; i < 8; i++) {
            checks.same("all full: the first knot", bench.knot(i, 0, 0, NONE), i % 4);
            checks.same("all full: the last knot", bench.knot(i, 15, 1, NONE), i % 4);
            checks.same("all full: the first place", bench.thread(i, 16, 0), i % 4 < 2 ? 3 : 0);
            checks.same("all full: a picture's starts", bench.starts(i), 4096);
        }
        checks.same("all full: bands", bench.count(0), 8);
        checks.same("all full: pictures", bench.count(1), 8);
    }

    private void knotWas() {
        sentence("Promise 5", "The KIND of a KNOT is another one: what it was; kind NONE: it stays.");
        bench.band(6);
        addRows(0, 16, 0);
        int[][] knots = {{0, 0}, {0, 2}, {1, 1}, {14, 2}, {15, 0}, {15, 1}};
        for (int[] at : knots) {
            for (int kind = 0; kind < 4; kind++) {
                checks.same("what it was", bench.knot(0, at[0], at[1], kind), Math.max(kind - 1, 0));
                checks.same("NONE", bench.knot(0, at[0], at[1], NONE), kind);
                checks.same("it stayed", bench.knot(0, at[0], at[1], NONE), kind);
                checks.same("the same", bench.knot(0, at[0], at[1], kind), kind);
            }
        }
        for (int row = 0; row < 16; row++) {
            for (int knot = 0; knot < knotsOf(6, row); knot++) {
                boolean changed = false;
                for (int[] at : knots) {
                    changed |= at[0] == row && at[1] == knot;
                }
                checks.same("in the end", bench.knot(0, row, knot, 0), changed ? 3 : 0);
            }
        }
    }

    private void knotNoElement() {
        sentence("Promise 5", "NoSuchElementException: no such ROW, KNOT (as everywhere).");
        refusedOnSmallBench(() -> {
            noSuchRow(2);
            noSuchKnot(0, 1);
            noSuchKnot(1, 1);
        });
        for (int threads = 2; threads <= 6; threads++) {
            bench = new KnotBand();
            bench.band(threads);
            noSuchRow(0);
            bench.row(0, 0);
            noSuchRow(1);
            addRows(0, 15, 0);
            noSuchRow(16);
            for (int row : new int[] {0, 1, 14, 15}) {
                noSuchKnot(row, knotsOf(threads, row));
            }
        }
    }

    /** Of band 0, that has so many rows. */
    private void noSuchRow(int rows) {
        for (int far : beyond(0, rows - 1)) {
            checks.noElement("knot of row " + far + " of " + rows, () -> bench.knot(0, far, 0, 1));
            checks.noElement("knot's kind of row " + far + " of " + rows, () -> bench.knot(0, far, 0, NONE));
            checks.noElement("shows of row " + far + " of " + rows, () -> bench.shows(0, far, 0));
        }
        for (int far : beyond(0, rows)) {
            checks.noElement("thread ahead of row " + far + " of " + rows, () -> bench.thread(0, far, 0));
        }
    }

    private void noSuchKnot(int row, int knots) {
        for (int far : beyond(0, knots - 1)) {
            checks.noElement("knot " + far + " of row " + row, () -> bench.knot(0, row, far, 1));
            checks.noElement("kind of knot " + far + " of row " + row, () -> bench.knot(0, row, far, NONE));
            checks.noElement("shows of knot " + far + " of row " + row, () -> bench.shows(0, row, far));
        }
    }

    private void knotBadArgument() {
        sentence("Promise 5", "IllegalArgumentException: no such KIND.");
        refusedOnSmallBench(() -> {
            for (int far : beyond(NONE, 3)) {
                checks.badArgument("kind " + far, () -> bench.knot(0, 0, 0, far));
                checks.badArgument("kind " + far + " in row 1", () -> bench.knot(0, 1, 0, far));
            }
        });
    }

    private void shows() {
        sentence("Promise 6", "What a KNOT SHOWS.");
        bench.band(6);
        setColours(0, 0, 1, 2, 3, 1, 3);
        addRows(0, 16, STAY_ALL_LEFT);
        int[] evenLeft = {0, 2, 1};
        int[] oddLeft = {1, 3};
        for (int row = 0; row < 16; row++) {
            for (int knot = 0; knot < knotsOf(6, row); knot++) {
                checks.same("row " + row + ", knot " + knot, bench.shows(0, row, knot),
                    (row % 2 == 0 ? evenLeft : oddLeft)[knot]);
            }
        }
        bench.knot(0, 15, 1, 3);
        checks.same("the right one in the last knot", bench.shows(0, 15, 1), 1);
        bench.knot(0, 14, 2, 0);
        checks.same("another came to it", bench.shows(0, 15, 1), 3);
        bench.colour(0, 5, 0);
        checks.same("of another colour now", bench.shows(0, 15, 1), 0);
        bench.band(2);
        checks.noElement("without rows", () -> bench.shows(1, 0, 0));
        addRows(1, 2, 1);
        checks.same("two threads", bench.shows(1, 0, 0), 0);
        checks.noElement("a row without knots", () -> bench.shows(1, 1, 0));
    }

    private void thread() {
        sentence("Promise 7", "The THREAD that stands at a PLACE ahead of a ROW (row as many as there are: behind the "
            + "last).");
        bench.band(3);
        sameThreads("without rows", 0, 0, 0, 1, 2);
        checks.noElement("without rows, row 1", () -> bench.thread(0, 1, 0));
        int[][] behind = {{1, 0, 2}, {1, 2, 0}, {2, 1, 0}, {2, 0, 1}, {0, 2, 1}, {0, 1, 2}};
        for (int i = 1; i <= 16; i++) {
            int rows = i;
            bench.row(0, i % 2);
            sameThreads("behind the last of " + rows, 0, rows, behind[(rows - 1) % 6]);
            checks.noElement("behind that", () -> bench.thread(0, rows + 1, 0));
        }
        for (int row = 1; row <= 16; row++) {
            sameThreads("ahead of row " + row, 0, row, behind[(row - 1) % 6]);
        }
        sameThreads("ahead of row 0", 0, 0, 0, 1, 2);
        for (int far : beyond(0, 16)) {
            checks.noElement("row " + far, () -> bench.thread(0, far, 0));
        }
    }

    private void threadNoElement() {
        sentence("Promise 7", "NoSuchElementException: also no such PLACE.");
        for (int threads = 2; threads <= 6; threads++) {
            bench = new KnotBand();
            bench.band(threads);
            noSuchPlace(threads, 0);
            addRows(0, 16, 0);
            noSuchPlace(threads, 0);
            noSuchPlace(threads, 15);
            noSuchPlace(threads, 16);
        }
    }

    private void noSuchPlace(int threads, int row) {
        for (int far : beyond(0, threads - 1)) {
            checks.noElement("place " + far + " of " + threads, () -> bench.thread(0, row, far));
        }
    }

    /** Thread 1 is tied in every row. */
    private void used() {
        sentence("Promise 8", "What is USED of a THREAD in all ROWS.");
        bench.band(3);
        sameUsed("without rows", 0, 0, 0);
        bench.row(0, 3);
        sameUsed("one row", 1, 5, 0);
        for (int row = 1; row < 16; row++) {
            bench.row(0, row % 2 == 0 ? 3 : STAY_LEFT);
        }
        sameUsed("the most", 8, 80, 8);
        sameUsed("the same again", 8, 80, 8);
        for (int row = 0; row < 16; row++) {
            bench.knot(0, row, 0, row % 2 == 0 ? STAY_LEFT : 3);
        }
        sameUsed("the least", 40, 16, 40);
        bench.knot(0, 15, 0, STAY_LEFT);
        sameUsed("the last row is asked, too", 40, 20, 36);
        bench.knot(0, 0, 0, 3);
        sameUsed("and the first", 36, 24, 36);
        bench.band(2);
        addRows(1, 16, 0);
        checks.same("eight knots in sixteen rows of two", bench.used(1, 0), 4 * 5 + 4);
    }

    private void sameUsed(String what, int... due) {
        for (int thread = 0; thread < due.length; thread++) {
            checks.same(what + ", thread " + thread, bench.used(0, thread), due[thread]);
        }
    }

    private void home() {
        sentence("Promise 9",
            "How often at least (from 1 on) a BAND is tied until it is HOME (what 0), in COLOUR (1).");
        bench.band(6);
        checks.same("without rows", bench.home(0, 0), 1);
        checks.same("without rows, in colour", bench.home(0, 1), 1);
        addRows(0, 2, 0);
        checks.same("the most", bench.home(0, 0), 6);
        checks.same("in colour the least", bench.home(0, 1), 1);
        bench.colour(0, 5, 1);
        checks.same("in colour the most", bench.home(0, 1), 6);
        addRows(0, 14, STAY_ALL_LEFT);
        checks.same("of sixteen rows", bench.home(0, 0), 6);
        checks.same("of sixteen rows, in colour", bench.home(0, 1), 6);
        checks.same("asked again", bench.home(0, 0), 6);
        bench.band(3);
        bench.colour(1, 0, 3);
        addRows(1, 16, 0);
        // Six rows bring the three home; the four that sixteen have above twelve send them round.
        checks.same("three threads all changing", bench.home(1, 0), 3);
        checks.same("three threads all changing, in colour", bench.home(1, 1), 3);
    }

    private void homeNone() {
        sentence("Promise 9", "NONE: its ROWS are an odd number.");
        bench.band(6);
        for (int rows = 1; rows <= 16; rows++) {
            bench.row(0, STAY_ALL_LEFT);
            if (rows % 2 == 1) {
                checks.same(rows + " rows", bench.home(0, 0), NONE);
                checks.same(rows + " rows, in colour", bench.home(0, 1), NONE);
            } else {
                checks.same("but not of " + rows, bench.home(0, 0), 1);
            }
        }
        bench.picture(2, 15);
        int band = bench.tie(0);
        checks.same("of a tied one", bench.home(band, 0), NONE);
        bench.row(band, 0);
        checks.same("of a tied one with a row more", bench.home(band, 0), 1);
    }

    private void homeNoElement() {
        sentence("Promise 9", "NoSuchElementException: another what.");
        refusedOnSmallBench(() -> {
            for (int far : beyond(0, 1)) {
                checks.noElement("what " + far, () -> bench.home(0, far));
            }
        });
        bench = new KnotBand();
        bench.band(2);
        for (int far : beyond(0, 1)) {
            checks.noElement("without rows, what " + far, () -> bench.home(0, far));
        }
    }

    private void unlike() {
        sentence("Promise 10", "How many KNOTS of two BANDS show unlike COLOURS.");
        bench.band(6);
        bench.band(6);
        checks.same("without rows", bench.unlike(0, 1), 0);
        setColours(1, 3, 3, 3, 3, 3, 3);
        checks.same("without rows, of unlike colours", bench.unlike(0, 1), 0);
        int knots = 0;
        for (int row = 0; row < 16; row++) {
            bench.row(0, 0);
            bench.row(1, STAY_ALL_LEFT);
            knots += knotsOf(6, row);
            checks.same("all of " + (row + 1) + " rows", bench.unlike(0, 1), knots);
        }
        checks.same("the most", bench.unlike(1, 0), 40);
        checks.same("with itself", bench.unlike(1, 1), 0);
        setColours(1, 0, 0, 0, 0, 0, 0);
        checks.same("other kinds of like colours", bench.unlike(0, 1), 0);
        bench.colour(1, 0, 1);
        checks.same("one thread that is the left one in eight rows", bench.unlike(0, 1), 8);
        for (int row = 2; row < 16; row += 2) {
            bench.knot(1, row, 0, 3);
        }
        checks.same("the first knot alone", bench.unlike(0, 1), 1);
        bench.colour(1, 0, 0);
        bench.colour(1, 4, 1);
        for (int row = 0; row < 16; row += 2) {
            bench.knot(1, row, 2, 3);
        }
        checks.same("none", bench.unlike(0, 1), 0);
        bench.knot(1, 15, 1, 3);
        checks.same("the last knot alone", bench.unlike(0, 1), 1);
        setColours(0, 1, 1, 1, 1, 1, 1);
        checks.same("all but the last knot", bench.unlike(0, 1), 39);
        bench.colour(1, 4, 0);
        checks.same("all again", bench.unlike(1, 0), 40);
    }

    private void unlikeBadArgument() {
        sentence("Promise 10", "IllegalArgumentException: they are unlike in THREADS or ROWS.");
        for (int threads = 2; threads <= 6; threads++) {
            bench.band(threads);
        }
        unlikeThreads();
        for (int band = 0; band < 5; band++) {
            addRows(band, 16, 0);
        }
        unlikeThreads();
        bench.band(6);
        for (int rows = 0; rows < 16; rows++) {
            checks.badArgument(rows + " rows and 16", () -> bench.unlike(5, 4));
            checks.badArgument("16 rows and " + rows, () -> bench.unlike(4, 5));
            bench.row(5, 0);
        }
        checks.same("16 rows and 16", bench.unlike(5, 4), 0);
        bench.band(6);
        checks.same("no rows and no rows", bench.unlike(6, 6), 0);
        bench.band(6);
        bench.row(7, 0);
        checks.badArgument("no row and one", () -> bench.unlike(6, 7));
        checks.badArgument("one row and none", () -> bench.unlike(7, 6));
    }

    /** Bands 0 to 4 have as many rows as each other, and from 2 to 6 threads. */
    private void unlikeThreads() {
        for (int i = 0; i < 5; i++) {
            for (int j = 0; j < 5; j++) {
                int band = i;
                int other = j;
                if (band == other) {
                    checks.same("a band and itself", bench.unlike(band, other), 0);
                } else {
                    checks.badArgument("bands " + band + " and " + other, () -> bench.unlike(band, other));
                }
            }
        }
    }

    private void count() {
        sentence("Promise 19", "0 BANDS, 1 PICTURES.");
        checks.same("no bands", bench.count(0), 0);
        checks.same("no pictures", bench.count(1), 0);
        for (int made = 1; made <= 8; made++) {
            bench.picture(2, 1);
            checks.same("pictures", bench.count(1), made);
            checks.same("bands as before", bench.count(0), made - 1);
            int tiedOrNot = made % 2 == 0 ? bench.tie(0) : bench.band(6);
            checks.same("bands, behind band " + tiedOrNot, bench.count(0), made);
            checks.same("pictures as before", bench.count(1), made);
        }
        bench.picture(2, 1);
        bench.band(2);
        bench.tie(0);
        checks.same("never nine bands", bench.count(0), 8);
        checks.same("never nine pictures", bench.count(1), 8);
    }

    private void countNoElement() {
        sentence("Promise 19", "NoSuchElementException: another what.");
        for (int far : beyond(0, 1)) {
            checks.noElement("what " + far, () -> bench.count(far));
        }
        refusedOnSmallBench(() -> {
            for (int far : beyond(0, 1)) {
                checks.noElement("what " + far, () -> bench.count(far));
            }
        });
    }
}
