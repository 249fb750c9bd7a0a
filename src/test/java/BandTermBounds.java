/** The boundary cases of the terms that tell of bands, up to part 2. */
final class BandTermBounds extends Bounds {
    BandTermBounds(Checks checks, Document document) {
        super(checks, document);
    }

    void run() {
        each(
            this::calls, this::none, this::bandsFromZeroToEight, this::threadsOfEachWidth, this::placesAtFirst,
            this::coloursAtFirst, this::rowsFromZeroToSixteen, this::knotsOfEachRow, this::kinds, this::showing,
            this::usedByKnot, this::repeated, this::homeOfThreads, this::homeOfColours, this::homeOfEvenRows);
    }

    private void calls() {
        sentence("What it is", "An object is used for at most 512 calls after it has been made;");
        bench.picture(6, 16);
        int was = 4;
        for (int call = 2; call <= 512; call++) {
            checks.same("see as call " + call, bench.see(0, 15, 1, call % 5), was);
            was = call % 5;
        }
        bench = new KnotBand();
        bench.picture(6, 16);
        setMust(0, 0, 0, 0, 0, 0, 0);
        for (int call = 9; call <= 511; call += 2) {
            bench.see(0, 14, 2, 1 + call % 3);
            checks.same("suspect as call " + call, bench.suspect(0, 0), 8 * 14 + 2);
        }
        checks.same("starts as call 512", bench.starts(0), 0);
        bench = new KnotBand();
        for (int call = 1; call <= 511; call++) {
            checks.noElement("a refused call " + call, () -> bench.used(0, 0));
        }
        checks.same("the first band as call 512", bench.band(6), 0);
    }

    private void none() {
        sentence("Terms", "The constants: `NONE = -1`: There is none.");
        checks.same("NONE", KnotBand.NONE, -1);
    }

    private void bandsFromZeroToEight() {
        sentence("Terms", "BANDS, numbered from 0 on, at most 8:");
        for (int i = 0; i < 8; i++) {
            int band = i;
            checks.noElement("not yet there: " + band, () -> bench.used(band, 0));
            checks.same("band", bench.band(2 + band % 5), band);
            checks.same("there: " + band, bench.used(band, 0), 0);
        }
        checks.same("a ninth", bench.band(2), NONE);
        checks.noElement("band 8", () -> bench.used(8, 0));
        checks.noElement("band -1", () -> bench.used(-1, 0));
        bench = new KnotBand();
        bench.picture(2, 1);
        for (int i = 0; i < 8; i++) {
            checks.same("tied and empty ones in turn", i % 2 == 0 ? bench.tie(0) : bench.band(3), i);
        }
        checks.same("an empty ninth", bench.band(3), NONE);
        checks.same("a tied ninth", bench.tie(0), NONE);
    }

    private void threadsOfEachWidth() {
        sentence("Terms", "THREADS 0 to n - 1 (n 2 to 6),");
        checks.same("1 thread", bench.band(1), NONE);
        checks.same("7 threads", bench.band(7), NONE);
        for (int n = 2; n <= 6; n++) {
            int threads = n;
            int band = bench.band(threads);
            checks.same("of " + threads, band, threads - 2);
            for (int thread = 0; thread < threads; thread++) {
                checks.same("thread " + thread + " of " + threads, bench.used(band, thread), 0);
                checks.same("its colour", bench.colour(band, thread, 1), 0);
            }
            checks.noElement("thread -1 of " + threads, () -> bench.used(band, -1));
            checks.noElement("a thread too many of " + threads, () -> bench.used(band, threads));
            checks.noElement("the colour of one too many of " + threads, () -> bench.colour(band, threads, 1));
        }
    }

    private void placesAtFirst() {
        sentence("Terms", "THREAD t at PLACE t at first,");
        for (int threads = 2; threads <= 6; threads++) {
            int band = bench.band(threads);
            for (int place = 0; place < threads; place++) {
                checks.same("of " + threads, bench.thread(band, 0, place), place);
            }
            addRows(band, 16, 0);
            for (int place = 0; place < threads; place++) {
                checks.same("with rows, of " + threads, bench.thread(band, 0, place), place);
            }
        }
    }

    private void coloursAtFirst() {
        sentence("Terms", "each with a COLOUR (0 to 3; 0 at first).");
        for (int threads = 2; threads <= 6; threads++) {
            int band = bench.band(threads);
            for (int thread = 0; thread < threads; thread++) {
                checks.same("at first", bench.colour(band, thread, 0), 0);
                checks.same("the least", bench.colour(band, thread, 3), 0);
                checks.same("the most", bench.colour(band, thread, 3), 3);
            }
            checks.badArgument("one below", () -> bench.colour(band, 0, -1));
            checks.badArgument("one above", () -> bench.colour(band, 0, 4));
        }
        int band = bench.band(2);
        bench.row(band, 1);
        checks.same("at first, as it shows", bench.shows(band, 0, 0), 0);
    }

    private void rowsFromZeroToSixteen() {
        sentence("Terms", "ROWS, from 0 on, at most 16:");
        for (int threads = 2; threads <= 6; threads++) {
            bench = new KnotBand();
            bench.band(threads);
            for (int i = 0; i < 16; i++) {
                int rows = i;
                checks.noElement("row " + rows + " not yet", () -> bench.knot(0, rows, 0, NONE));
                checks.noElement("nor what is behind it", () -> bench.thread(0, rows + 1, 0));
                checks.same("a row more", bench.row(0, STAY_ALL_LEFT), rows + 1);
                checks.same("what is behind it", bench.thread(0, rows + 1, 1), 1);
                if (threads > 2 || rows % 2 == 0) {
                    checks.same("row " + rows, bench.knot(0, rows, 0, NONE), STAY_LEFT);
                }
            }
            checks.same("a seventeenth", bench.row(0, 0), NONE);
            checks.noElement("row 16", () -> bench.knot(0, 16, 0, NONE));
            checks.noElement("behind row 16", () -> bench.thread(0, 17, 0));
            checks.noElement("row -1", () -> bench.knot(0, -1, 0, NONE));
        }
    }

    private void knotsOfEachRow() {
        sentence("Terms", "in an even one KNOTS 0, 1, .. tie PLACES 0 and 1, 2 and 3, and so on; in an odd one 1 and "
            + "2, 3 and 4, and so on (as far as there are two).");
        for (int n = 2; n <= 6; n++) {
            int threads = n;
            bench = new KnotBand();
            bench.band(threads);
            addRows(0, 16, STAY_ALL_LEFT);
            for (int i = 0; i < 16; i++) {
                int row = i;
                int knots = knotsOf(threads, row);
                for (int knot = 0; knot < knots; knot++) {
                    samePlacesTied(threads, row, knot);
                }
                checks.noElement(threads + " threads, row " + row + ", a knot more",
                    () -> bench.knot(0, row, knots, NONE));
                checks.noElement(threads + " threads, row " + row + ", knot -1",
                    () -> bench.knot(0, row, -1, NONE));
            }
        }
    }

    /** Of a band in which all threads stay, this knot alone lets two change places, and then not any more. */
    private void samePlacesTied(int threads, int row, int knot) {
        int left = row % 2 == 0 ? 2 * knot : 2 * knot + 1;
        checks.same("the kind", bench.knot(0, row, knot, 0), STAY_LEFT);
        for (int place = 0; place < threads; place++) {
            int due = place == left ? left + 1 : place == left + 1 ? left : place;
            checks.same(threads + " threads, row " + row + ", knot " + knot, bench.thread(0, row + 1, place), due);
        }
        bench.knot(0, row, knot, STAY_LEFT);
    }

    private void kinds() {
        sentence("Terms", "KINDS of KNOTS: 0 the left THREAD shows, and the two change places; 1 the right one shows, "
            + "and they change places; 2 the left one shows, and they stay; 3 the right one shows, and they stay.");
        bench.band(3);
        setColours(0, 1, 2, 3);
        addRows(0, 16, STAY_LEFT);
        int[] firstShows = {1, 2, 1, 2};
        int[] lastShows = {2, 3, 2, 3};
        for (int kind = 0; kind < 4; kind++) {
            bench.knot(0, 0, 0, kind);
            checks.same("row 0 of kind " + kind, bench.shows(0, 0, 0), firstShows[kind]);
            sameThreads("behind kind " + kind, 0, 1, kind < 2 ? list(1, 0, 2) : list(0, 1, 2));
        }
        bench.knot(0, 0, 0, STAY_LEFT);
        for (int kind = 0; kind < 4; kind++) {
            bench.knot(0, 15, 0, kind);
            checks.same("row 15 of kind " + kind, bench.shows(0, 15, 0), lastShows[kind]);
            sameThreads("behind kind " + kind, 0, 16, kind < 2 ? list(0, 2, 1) : list(0, 1, 2));
        }
    }

    /** Thread 0 wanders to the right, back again unseen, and to the right once more. */
    private void showing() {
        sentence("Terms", "A BAND SHOWS in each KNOT the COLOUR of the THREAD that shows.");
        bench.band(6);
        bench.colour(0, 0, 3);
        addRows(0, 16, 0);
        for (int row = 0; row < 16; row++) {
            for (int knot = 0; knot < knotsOf(6, row); knot++) {
                boolean seen = row <= 4 && knot == row / 2 || row >= 12 && knot == (row - 12) / 2;
                checks.same("row " + row + ", knot " + knot, bench.shows(0, row, knot), seen ? 3 : 0);
            }
        }
        bench.colour(0, 0, 0);
        checks.same("the least colour", bench.shows(0, 15, 1), 0);
    }

    private void usedByKnot() {
        sentence("Terms", "USED by a KNOT: 5 of the THREAD that shows, 1 of the other one.");
        bench.band(3);
        bench.row(0, 0);
        for (int kind = 0; kind < 4; kind++) {
            bench.knot(0, 0, 0, kind);
            checks.same("the left one, kind " + kind, bench.used(0, 0), kind % 2 == 0 ? 5 : 1);
            checks.same("the right one, kind " + kind, bench.used(0, 1), kind % 2 == 0 ? 1 : 5);
            checks.same("one that is not tied, kind " + kind, bench.used(0, 2), 0);
        }
    }

    /** Two rows tied eight times are the sixteen rows of another band, as long as a band can be. */
    private void repeated() {
        sentence("Terms", "REPEATED: behind its last ROW a BAND begins anew with ROW 0, THREADS standing as they do.");
        for (int threads = 2; threads <= 6; threads++) {
            int knots = knotsOf(threads, 0) + knotsOf(threads, 1);
            for (int staying = 0; staying < 1 << knots; staying++) {
                int even = kindsStaying(staying, knotsOf(threads, 0));
                int odd = kindsStaying(staying >> knotsOf(threads, 0), knotsOf(threads, 1));
                bench = new KnotBand();
                bench.band(threads);
                bench.row(0, even);
                bench.row(0, odd);
                bench.band(threads);
                for (int i = 0; i < 8; i++) {
                    bench.row(1, even);
                    bench.row(1, odd);
                }
                checks.same(threads + " threads, rows of kinds " + even + " and " + odd, bench.home(0, 0),
                    timesSeen(threads));
            }
        }
    }

    private static int kindsStaying(int staying, int knots) {
        int kinds = 0;
        for (int knot = 0; knot < knots; knot++) {
            kinds |= ((staying >> knot) & 1) * STAY_LEFT << (2 * knot);
        }
        return kinds;
    }

    /** Behind how many two rows of band 1 all threads are where they were; 0 if they never are. */
    private int timesSeen(int threads) {
        for (int times = 1; times <= 8; times++) {
            int apart = 0;
            for (int place = 0; place < threads; place++) {
                apart += bench.thread(1, 2 * times, place) == place ? 0 : 1;
            }
            if (apart == 0) {
                return times;
            }
        }
        return 0;
    }

    private void homeOfThreads() {
        sentence("Terms", "It comes HOME when each PLACE has the THREAD that it had at first;");
        for (int threads = 2; threads <= 6; threads++) {
            int band = bench.band(threads);
            checks.same("without rows", bench.home(band, 0), 1);
            addRows(band, 2, 0);
            checks.same("all change, " + threads + " threads", bench.home(band, 0), threads);
            addRows(band, 14, STAY_ALL_LEFT);
            checks.same("and then stay up to row 15", bench.home(band, 0), threads);
        }
        bench.knot(3, 1, 0, STAY_LEFT);
        checks.same("three and two threads that go round", bench.home(3, 0), 6);
        bench.knot(0, 0, 0, 3);
        checks.same("the two stay", bench.home(0, 0), 1);
        int band = bench.band(6);
        addRows(band, 16, STAY_ALL_LEFT);
        checks.same("all stay", bench.home(band, 0), 1);
        bench.knot(band, 15, 1, 1);
        checks.same("two change in the last row alone", bench.home(band, 0), 2);
        bench.knot(band, 14, 1, 0);
        checks.same("and in the one ahead", bench.home(band, 0), 3);
        bench.knot(band, 0, 0, 0);
        checks.same("and in the first", bench.home(band, 0), 6);
    }

    private void homeOfColours() {
        sentence("Terms", "in COLOUR, when each has the COLOUR.");
        bench.band(6);
        addRows(0, 2, 0);
        checks.same("all alike", bench.home(0, 1), 1);
        // The places follow one another as 0 1 3 5 4 2.
        sameHomeInColour(2, 0, 1, 1, 0, 0, 1);
        sameHomeInColour(3, 0, 1, 2, 2, 1, 0);
        sameHomeInColour(6, 3, 0, 0, 0, 0, 0);
        sameHomeInColour(6, 0, 0, 0, 0, 0, 3);
        sameHomeInColour(6, 0, 1, 2, 3, 0, 1);
        sameHomeInColour(1, 3, 3, 3, 3, 3, 3);
        checks.same("the threads themselves", bench.home(0, 0), 6);
        addRows(0, 14, STAY_ALL_LEFT);
        sameHomeInColour(1, 3, 3, 3, 3, 3, 3);
        sameHomeInColour(2, 0, 1, 1, 0, 0, 1);
        sameHomeInColour(6, 0, 0, 0, 0, 0, 3);
        bench.band(4);
        addRows(1, 2, 0);
        setColours(1, 0, 1, 2, 3);
        checks.same("all unlike", bench.home(1, 1), 4);
        bench.band(2);
        bench.colour(2, 1, 3);
        checks.same("without rows", bench.home(2, 1), 1);
        addRows(2, 2, 0);
        checks.same("two unlike", bench.home(2, 1), 2);
    }

    private void sameHomeInColour(int due, int... colours) {
        setColours(0, colours);
        checks.same("six that go round", bench.home(0, 1), due);
    }

    private void homeOfEvenRows() {
        sentence("Terms", "(Only if it has an even number of ROWS.)");
        for (int n = 2; n <= 6; n++) {
            bench = new KnotBand();
            bench.band(n);
            for (int rows = 0; rows <= 16; rows++) {
                int due = rows % 2 == 0 ? 1 : NONE;
                checks.same(rows + " rows of " + n, bench.home(0, 0), due);
                checks.same(rows + " rows of " + n + ", in colour", bench.home(0, 1), due);
                bench.row(0, STAY_ALL_LEFT);
            }
        }
    }
}
