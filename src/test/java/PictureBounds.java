/** The boundary cases of promises 11 to 18: pictures. */
final class PictureBounds extends Bounds {
    PictureBounds(Checks checks, Document document) {
        super(checks, document);
    }

    void run() {
        promisesOfTelling();
        promisesOfWorkingOut();
    }

    private void promisesOfTelling() {
        each(
            this::pictureNumber, this::pictureNone, this::seeWas, this::seeNoElement, this::seeBadArgument,
            this::mustWas, this::mustNoElement, this::mustBadArgument, this::copyTrue, this::copyFalse);
    }

    private void promisesOfWorkingOut() {
        each(
            this::starts, this::start, this::tieNumber, this::tieNone, this::suspectNumber, this::suspectNoElement);
    }

    private void pictureNumber() {
        sentence("Promise 11", "A PICTURE: its number.");
        checks.same("the first, of the least", bench.picture(2, 1), 0);
        checks.same("many threads, few rows", bench.picture(6, 1), 1);
        checks.same("few threads, many rows", bench.picture(2, 16), 2);
        for (int picture = 3; picture < 7; picture++) {
            checks.same("the next", bench.picture(4, 8), picture);
        }
        checks.same("the last, of the most", bench.picture(6, 16), 7);
    }

    private void pictureNone() {
        sentence("Promise 11", "NONE: there are 8, or numbers are not as told.");
        for (int threads : beyond(2, 6)) {
            checks.same(threads + " threads, 1 row", bench.picture(threads, 1), NONE);
            checks.same(threads + " threads, 16 rows", bench.picture(threads, 16), NONE);
        }
        for (int rows : beyond(1, 16)) {
            checks.same("2 threads, rows " + rows, bench.picture(2, rows), NONE);
            checks.same("6 threads, rows " + rows, bench.picture(6, rows), NONE);
        }
        checks.same("both wrong", bench.picture(7, 17), NONE);
        checks.same("none was made", bench.count(1), 0);
        for (int picture = 0; picture < 8; picture++) {
            checks.same("up to eight", bench.picture(6, 16), picture);
        }
        for (int threads = 1; threads <= 7; threads++) {
            checks.same("a ninth, of " + threads, bench.picture(threads, 1), NONE);
        }
        checks.same("eight stay", bench.count(1), 8);
        checks.same("the last of six threads", bench.must(7, 5, 0), UNTOLD);
        refusedOnSmallBench(() -> {
            checks.same("7 threads", bench.picture(7, 1), NONE);
            checks.same("17 rows", bench.picture(2, 17), NONE);
        });
    }

    private void seeWas() {
        sentence("Promise 12", "In a KNOT of a PICTURE a COLOUR (0 to 3) is seen, or none (4): what it was.");
        bench.picture(6, 16);
        bench.picture(6, 16);
        int[][] knots = {{0, 0}, {0, 2}, {1, 1}, {14, 2}, {15, 0}, {15, 1}};
        for (int[] at : knots) {
            int was = UNTOLD;
            for (int colour : new int[] {0, 1, 2, 3, 3, 4, 4, 3, 0, 0, 2}) {
                checks.same("row " + at[0] + ", knot " + at[1], bench.see(0, at[0], at[1], colour), was);
                was = colour;
            }
        }
        for (int row = 0; row < 16; row++) {
            for (int knot = 0; knot < knotsOf(6, row); knot++) {
                boolean seen = false;
                for (int[] at : knots) {
                    seen |= at[0] == row && at[1] == knot;
                }
                checks.same("in the end", bench.see(0, row, knot, UNTOLD), seen ? 2 : UNTOLD);
                checks.same("the other picture", bench.see(1, row, knot, UNTOLD), UNTOLD);
            }
        }
    }

    private void seeNoElement() {
        sentence("Promise 12", "NoSuchElementException: no such PICTURE (as everywhere), ROW, KNOT.");
        refusedOnSmallBench(() -> {
            for (int far : beyond(0, 1)) {
                noSuchPicture(far);
            }
            noSuchRowOrKnot(3, 2);
        });
        for (int threads = 2; threads <= 6; threads++) {
            for (int rows : new int[] {1, 15, 16}) {
                bench = new KnotBand();
                bench.picture(threads, rows);
                noSuchRowOrKnot(threads, rows);
            }
        }
        bench = new KnotBand();
        bench.band(2);
        bench.row(0, 0);
        noSuchPicture(0);
        for (int i = 0; i < 7; i++) {
            bench.band(2);
            bench.picture(2, 1);
            noSuchPicture(i + 1);
        }
        bench.picture(2, 1);
        noSuchPicture(8);
        noSuchPicture(-1);
    }

    private void noSuchPicture(int far) {
        checks.noElement("see of picture " + far, () -> bench.see(far, 0, 0, 0));
        checks.noElement("must of picture " + far, () -> bench.must(far, 0, 0));
        checks.noElement("copy of picture " + far, () -> copied(far, 0));
        checks.noElement("starts of picture " + far, () -> bench.starts(far));
        checks.noElement("start of picture " + far, () -> bench.start(far, 0));
        checks.noElement("tie of picture " + far, () -> bench.tie(far));
        checks.noElement("suspect of picture " + far, () -> bench.suspect(far, 0));
        checks.noElement("how many suspects of picture " + far, () -> bench.suspect(far, NONE));
    }

    /** Of picture 0, that is of this size. */
    private void noSuchRowOrKnot(int threads, int rows) {
        for (int far : beyond(0, rows - 1)) {
            checks.noElement("row " + far + " of " + rows, () -> bench.see(0, far, 0, 0));
        }
        for (int i = 0; i < rows; i++) {
            int row = i;
            for (int far : beyond(0, knotsOf(threads, row) - 1)) {
                checks.noElement("row " + row + ", knot " + far, () -> bench.see(0, row, far, 0));
            }
        }
    }

    private void seeBadArgument() {
        sentence("Promise 12", "IllegalArgumentException: no such COLOUR.");
        refusedOnSmallBench(() -> {
            for (int far : beyond(0, 4)) {
                checks.badArgument("colour " + far, () -> bench.see(0, 0, 0, far));
                checks.badArgument("colour " + far + " in row 1", () -> bench.see(0, 1, 0, far));
            }
        });
    }

    private void mustWas() {
        sentence("Promise 13", "At a PLACE a COLOUR must be at first, or any (4): what it was.");
        bench.picture(2, 1);
        bench.picture(6, 16);
        for (int place = 0; place < 6; place++) {
            int was = UNTOLD;
            for (int colour : new int[] {0, 1, 2, 3, 3, 4, 4, 3, 0, 0, 2}) {
                checks.same("place " + place, bench.must(1, place, colour), was);
                was = colour;
            }
        }
        checks.same("the first place of the other picture", bench.must(0, 0, 3), UNTOLD);
        checks.same("the last place of the other picture", bench.must(0, 1, 3), UNTOLD);
        for (int place = 0; place < 6; place++) {
            checks.same("in the end, place " + place, bench.must(1, place, UNTOLD), 2);
        }
    }

    private void mustNoElement() {
        sentence("Promise 13", "NoSuchElementException: also no such PLACE.");
        refusedOnSmallBench(() -> noSuchPlace(0, 3));
        bench = new KnotBand();
        for (int threads = 2; threads <= 6; threads++) {
            noSuchPlace(bench.picture(threads, 16), threads);
        }
        refusedOnSmallBench(() -> {
            for (int far : beyond(0, 1)) {
                checks.noElement("must of picture " + far, () -> bench.must(far, 0, 0));
            }
        });
    }

    private void noSuchPlace(int picture, int threads) {
        for (int far : beyond(0, threads - 1)) {
            checks.noElement("must at place " + far + " of " + threads, () -> bench.must(picture, far, 0));
            checks.noElement("start at place " + far + " of " + threads, () -> bench.start(picture, far));
        }
    }

    private void mustBadArgument() {
        sentence("Promise 13", "IllegalArgumentException likewise.");
        refusedOnSmallBench(() -> {
            for (int far : beyond(0, 4)) {
                checks.badArgument("colour " + far, () -> bench.must(0, 0, far));
                checks.badArgument("colour " + far + " at the last place", () -> bench.must(0, 2, far));
            }
        });
    }

    private void copyTrue() {
        sentence("Promise 14", "A PICTURE has just the COLOURS that a BAND SHOWS (what must be at first stays): true.");
        bench.band(6);
        setColours(0, 0, 1, 2, 3, 1, 3);
        addRows(0, 16, 0b101010);
        bench.picture(6, 16);
        setMust(0, 3, 2, 1, 0, 3, UNTOLD);
        bench.see(0, 0, 0, 3);
        bench.see(0, 15, 1, 2);
        checks.same("what was told can be", bench.starts(0), 4);
        checks.same("copied", copied(0, 0), 1);
        checks.same("what is told now can't be", bench.starts(0), 0);
        bench.colour(0, 0, 3);
        bench.knot(0, 15, 1, 3);
        int[] even = {0, 2, 1};
        int[] odd = {1, 3};
        for (int row = 0; row < 16; row++) {
            for (int knot = 0; knot < knotsOf(6, row); knot++) {
                int due = (row % 2 == 0 ? even : odd)[knot];
                checks.same("row " + row + ", knot " + knot, bench.see(0, row, knot, due), due);
            }
        }
        int[] must = {3, 2, 1, 0, 3, UNTOLD};
        for (int place = 0; place < 6; place++) {
            checks.same("what must be at place " + place, bench.must(0, place, must[place]), must[place]);
        }
        setMust(0, 0, 1, 2, 3, 1, 3);
        checks.same("but by the band's own colours", bench.starts(0), 1);
        bench.band(2);
        bench.colour(1, 1, 3);
        bench.row(1, 1);
        bench.picture(2, 1);
        checks.same("of the least size", copied(1, 1), 1);
        checks.same("its knot", bench.see(1, 0, 0, UNTOLD), 3);
    }

    private void copyFalse() {
        sentence("Promise 14", "False: they are unlike in THREADS or ROWS.");
        refusedOnSmallBench(() -> checks.same("2 threads and 3", copied(1, 0), 0));
        bench = new KnotBand();
        bench.picture(6, 1);
        bench.picture(6, 15);
        bench.picture(6, 16);
        bench.see(2, 0, 0, 1);
        bench.band(6);
        for (int rows = 0; rows <= 16; rows++) {
            checks.same("1 row and " + rows, copied(0, 0), rows == 1 ? 1 : 0);
            checks.same("15 rows and " + rows, copied(1, 0), rows == 15 ? 1 : 0);
            checks.same("what is told before", bench.see(2, 0, 0, 1), 1);
            checks.same("16 rows and " + rows, copied(2, 0), rows == 16 ? 1 : 0);
            bench.row(0, 0);
        }
        checks.same("what is told then", bench.see(2, 0, 0, 1), 0);
        bench = new KnotBand();
        for (int threads = 2; threads <= 6; threads++) {
            addRows(bench.band(threads), 1, 0);
            bench.picture(threads, 1);
        }
        for (int picture = 0; picture < 5; picture++) {
            for (int band = 0; band < 5; band++) {
                checks.same("picture " + picture + " and band " + band, copied(picture, band), picture == band ? 1 : 0);
            }
        }
    }

    private void starts() {
        sentence("Promise 15", "By how many STARTS a PICTURE CAN BE TIED (0: it can't).");
        for (int threads = 2; threads <= 6; threads++) {
            int picture = bench.picture(threads, 16);
            checks.same("the most, of " + threads, bench.starts(picture), 1 << (2 * threads));
            bench.see(picture, 0, 0, 3);
            checks.same("one told, of " + threads, bench.starts(picture), 7 << (2 * (threads - 2)));
            for (int place = 0; place < threads; place++) {
                bench.must(picture, place, place == 0 ? 3 : 0);
            }
            checks.same("the least, of " + threads, bench.starts(picture), 1);
            bench.must(picture, 0, 0);
            checks.same("none, of " + threads, bench.starts(picture), 0);
            bench.see(picture, 0, 0, UNTOLD);
            checks.same("it can be again", bench.starts(picture), 1);
        }
    }

    private void start() {
        sentence("Promise 16",
            "The COLOUR of a PLACE in the first START by which it CAN BE TIED; NONE: there is none.");
        for (int threads = 2; threads <= 6; threads++) {
            int picture = bench.picture(threads, 16);
            int[] first = new int[threads];
            sameStart("nothing told", picture, first);
            bench.see(picture, 0, 0, 3);
            first[1] = 3;
            sameStart("one told", picture, first);
            bench.must(picture, 0, 1);
            bench.must(picture, 1, 2);
            for (int place = 0; place < threads; place++) {
                checks.same("none, place " + place, bench.start(picture, place), NONE);
            }
            bench.must(picture, 0, UNTOLD);
            first[0] = 3;
            first[1] = 2;
            sameStart("one again", picture, first);
            for (int far : beyond(0, threads - 1)) {
                checks.noElement("place " + far, () -> bench.start(picture, far));
            }
        }
    }

    private void tieNumber() {
        sentence("Promise 17", "THE BAND of a PICTURE becomes a BAND: its number.");
        bench.picture(6, 16);
        bench.picture(2, 1);
        bench.see(0, 0, 0, 3);
        bench.see(0, 15, 1, 2);
        for (int i = 0; i < 8; i++) {
            int band = i;
            int picture = i % 2;
            checks.same("its number", bench.tie(picture), band);
            checks.same("one more", bench.count(0), band + 1);
            int rows = picture == 0 ? 16 : 1;
            int threads = picture == 0 ? 6 : 2;
            checks.noElement("as many rows", () -> bench.thread(band, rows + 1, 0));
            checks.noElement("as many threads", () -> bench.used(band, threads));
            checks.same("it can be asked to the end", bench.thread(band, rows, threads - 1) < threads ? 1 : 0, 1);
        }
        checks.same("the first knot", bench.shows(0, 0, 0), 3);
        checks.same("the last knot", bench.shows(0, 15, 1), 2);
        checks.same("pictures are as many as before", bench.count(1), 2);
        bench.colour(0, 1, 0);
        checks.same("the band is its own", bench.shows(0, 0, 0), 0);
        checks.same("and the picture", bench.see(0, 0, 0, 3), 3);
        checks.same("and another band of it", bench.shows(2, 0, 0), 3);
        checks.same("a band may have a row more", bench.row(1, 0), 2);
    }

    private void tieNone() {
        sentence("Promise 17", "NONE: it CAN'T BE TIED, or there are 8.");
        refusedOnSmallBench(() -> checks.same("it can't be tied", bench.tie(1), NONE));
        checks.same("the other one can", bench.tie(0), 1);
        bench = new KnotBand();
        bench.picture(2, 1);
        bench.picture(2, 1);
        setMust(1, 1, 1);
        bench.see(1, 0, 0, 0);
        for (int band = 0; band < 7; band++) {
            checks.same("band", bench.band(2), band);
        }
        checks.same("a wrong one of seven", bench.tie(1), NONE);
        checks.same("seven stay", bench.count(0), 7);
        checks.same("an eighth", bench.tie(0), 7);
        checks.same("a ninth", bench.tie(0), NONE);
        checks.same("a ninth that is wrong", bench.tie(1), NONE);
        checks.same("eight stay", bench.count(0), 8);
        checks.same("the picture is as it was", bench.starts(0), 16);
    }

    private void suspectNumber() {
        sentence("Promise 18", "The i-th SUSPECT: 8 times its ROW, and its KNOT; i NONE: how many (0, too, if it CAN "
            + "BE TIED).");
        bench.picture(6, 16);
        sameSuspects("nothing told");
        setMust(0, 0, 0, 0, 0, 0, 0);
        sameSuspects("it can be tied");
        int[][] knots = {{0, 0, 0}, {0, 2, 2}, {1, 0, 8}, {1, 1, 9}, {14, 2, 114}, {15, 0, 120}, {15, 1, 121}};
        for (int[] at : knots) {
            bench.see(0, at[0], at[1], 3);
            sameSuspects("row " + at[0] + ", knot " + at[1], at[2]);
            bench.see(0, at[0], at[1], 0);
            sameSuspects("and put right");
        }
        bench.see(0, 0, 0, 1);
        bench.see(0, 15, 1, 1);
        sameSuspects("two, none alone");
        bench.must(0, 5, 1);
        sameSuspects("one of them can be now", 0);
        bench.must(0, 1, 1);
        sameSuspects("and the other one");
    }

    private void suspectNoElement() {
        sentence("Promise 18", "NoSuchElementException: there is none.");
        refusedOnSmallBench(() -> {
            for (int far : beyond(NONE, NONE)) {
                checks.noElement("it can be tied, " + far, () -> bench.suspect(0, far));
            }
            for (int far : beyond(NONE, 0)) {
                checks.noElement("one suspect, " + far, () -> bench.suspect(1, far));
            }
        });
        bench = new KnotBand();
        bench.picture(2, 7);
        for (int colour = 0; colour < 3; colour++) {
            bench.see(0, 2 * colour, 0, colour);
        }
        checks.same("the last of three", bench.suspect(0, 2), 32);
        for (int far : beyond(NONE, 2)) {
            checks.noElement("three suspects, " + far, () -> bench.suspect(0, far));
        }
        bench.see(0, 6, 0, 3);
        for (int far : beyond(NONE, NONE)) {
            checks.noElement("it can't be tied, and no suspect, " + far, () -> bench.suspect(0, far));
        }
    }
}
