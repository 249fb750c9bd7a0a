/** The boundary cases of part 2 of the terms: pictures. */
final class PictureTermBounds extends Bounds {
    PictureTermBounds(Checks checks, Document document) {
        super(checks, document);
    }

    void run() {
        each(
            this::picturesFromZeroToEight, this::sizes, this::knotsAtFirst, this::placesAtFirst, this::startsAsTold,
            this::canBeTied, this::orderOfStarts, this::bandByFirstStart, this::leastKinds, this::suspects);
    }

    private void picturesFromZeroToEight() {
        sentence("Terms", "PICTURES, from 0 on, at most 8:");
        for (int i = 0; i < 8; i++) {
            int picture = i;
            checks.noElement("not yet there: " + picture, () -> bench.starts(picture));
            checks.same("picture", bench.picture(2, 1 + picture), picture);
            checks.same("there: " + picture, bench.starts(picture), 16);
        }
        checks.same("a ninth", bench.picture(2, 1), NONE);
        checks.noElement("picture 8", () -> bench.starts(8));
        checks.noElement("picture -1", () -> bench.starts(-1));
    }

    private void sizes() {
        sentence("Terms", "of so many THREADS (2 to 6) and ROWS (1 to 16),");
        checks.same("1 thread", bench.picture(1, 1), NONE);
        checks.same("7 threads", bench.picture(7, 1), NONE);
        checks.same("no rows", bench.picture(2, 0), NONE);
        checks.same("17 rows", bench.picture(2, 17), NONE);
        for (int n = 2; n <= 6; n++) {
            int threads = n;
            bench = new KnotBand();
            for (int rows : new int[] {1, 2, 15, 16}) {
                int picture = bench.picture(threads, rows);
                checks.same("last place of " + threads, bench.must(picture, threads - 1, UNTOLD), UNTOLD);
                checks.noElement("a place more than " + threads, () -> bench.must(picture, threads, UNTOLD));
                for (int row = 0; row < rows; row++) {
                    sameKnots(picture, threads, row);
                }
                checks.noElement("a row more than " + rows, () -> bench.see(picture, rows, 0, UNTOLD));
            }
        }
    }

    private void sameKnots(int picture, int threads, int row) {
        int knots = knotsOf(threads, row);
        for (int knot = 0; knot < knots; knot++) {
            checks.same("row " + row + ", knot " + knot, bench.see(picture, row, knot, UNTOLD), UNTOLD);
        }
        checks.noElement("row " + row + ", a knot more", () -> bench.see(picture, row, knots, UNTOLD));
    }

    private void knotsAtFirst() {
        sentence("Terms", "for each KNOT a COLOUR or none told (4; at first);");
        for (int threads = 2; threads <= 6; threads++) {
            bench = new KnotBand();
            bench.picture(threads, 16);
            for (int row = 0; row < 16; row++) {
                for (int knot = 0; knot < knotsOf(threads, row); knot++) {
                    checks.same("at first", bench.see(0, row, knot, 0), 4);
                    checks.same("the least", bench.see(0, row, knot, 3), 0);
                    checks.same("the most", bench.see(0, row, knot, 4), 3);
                    checks.same("none told again", bench.see(0, row, knot, 4), 4);
                }
            }
            checks.badArgument("one below", () -> bench.see(0, 0, 0, -1));
            checks.badArgument("one above", () -> bench.see(0, 0, 0, 5));
        }
    }

    private void placesAtFirst() {
        sentence("Terms", "for each PLACE a COLOUR that must be there at first, or none told (4; at first).");
        for (int threads = 2; threads <= 6; threads++) {
            int picture = bench.picture(threads, 16);
            for (int place = 0; place < threads; place++) {
                checks.same("at first", bench.must(picture, place, 0), 4);
                checks.same("the least", bench.must(picture, place, 3), 0);
                checks.same("the most", bench.must(picture, place, 4), 3);
                checks.same("none told again", bench.must(picture, place, 4), 4);
            }
            checks.badArgument("one below", () -> bench.must(picture, 0, -1));
            checks.badArgument("one above", () -> bench.must(picture, 0, 5));
        }
    }

    private void startsAsTold() {
        sentence("Terms", "A START is a row of COLOURS for all PLACES (as told, where they are).");
        for (int threads = 2; threads <= 6; threads++) {
            int picture = bench.picture(threads, 16);
            int[] first = new int[threads];
            int due = 1 << (2 * threads);
            checks.same("nowhere told, of " + threads, bench.starts(picture), due);
            sameStart("nowhere told", picture, first);
            for (int place = 0; place < threads; place++) {
                first[place] = 3 - place % 4;
                bench.must(picture, place, first[place]);
                due /= 4;
                checks.same("told up to place " + place + " of " + threads, bench.starts(picture), due);
                sameStart("told up to place " + place, picture, first);
            }
            bench.must(picture, 0, UNTOLD);
            first[0] = 0;
            checks.same("the first one not told any more", bench.starts(picture), 4);
            sameStart("the first one not told any more", picture, first);
        }
    }

    private void canBeTied() {
        sentence("Terms", "By it a PICTURE CAN BE TIED, if there are KINDS of KNOTS with which a BAND that has these "
            + "COLOURS at first SHOWS all COLOURS that are told.");
        bench.picture(6, 16);
        setMust(0, 0, 0, 0, 0, 0, 3);
        sameReach("from the right", 5, -1);
        bench = new KnotBand();
        bench.picture(6, 16);
        setMust(0, 3, 0, 0, 0, 0, 0);
        sameReach("from the left", 0, 1);
        bench = new KnotBand();
        bench.picture(2, 5);
        bench.see(0, 0, 0, 3);
        checks.same("one of two has it", bench.starts(0), 7);
        bench.see(0, 2, 0, 0);
        checks.same("one has it, the other one the other", bench.starts(0), 2);
        bench.see(0, 4, 0, 3);
        checks.same("one of the two once more", bench.starts(0), 2);
        bench.see(0, 4, 0, 1);
        checks.same("three colours of two threads", bench.starts(0), 0);
        bench.see(0, 4, 0, UNTOLD);
        setMust(0, 0, 3);
        checks.same("as it must be", bench.starts(0), 1);
        setMust(0, 0, 0);
        checks.same("not as it must be", bench.starts(0), 0);
        for (int threads = 3; threads <= 6; threads++) {
            lastTwoPlaces(threads);
        }
    }

    /** All other threads have colour 0: the last two have the two colours that are told, in either order. */
    private void lastTwoPlaces(int threads) {
        bench = new KnotBand();
        bench.picture(threads, 16);
        for (int place = 0; place < threads - 2; place++) {
            bench.must(0, place, 0);
        }
        for (int one = 1; one < 4; one++) {
            for (int two = 1; two < 4; two++) {
                bench.see(0, 14, 0, one);
                bench.see(0, 15, 0, two);
                String what = threads + " threads of which the last have " + one + " and " + two;
                int firstDue = one == two ? 0 : Math.min(one, two);
                checks.same(what, bench.starts(0), one == two ? 7 : 2);
                checks.same(what + ", the first start", bench.start(0, threads - 2), firstDue);
                checks.same(what + ", its end", bench.start(0, threads - 1), Math.max(one, two));
            }
        }
    }

    /** A thread moves by no more than a place in each row; its colour alone is 3. */
    private void sameReach(String what, int from, int step) {
        for (int row = 0; row < 16; row++) {
            for (int knot = 0; knot < knotsOf(6, row); knot++) {
                int left = row % 2 == 0 ? 2 * knot : 2 * knot + 1;
                int near = step < 0 ? left + 1 : left;
                int due = (near - from) * step <= row ? 1 : 0;
                bench.see(0, row, knot, 3);
                checks.same(what + " to row " + row + ", knot " + knot, bench.starts(0), due);
                bench.see(0, row, knot, UNTOLD);
            }
        }
    }

    private void orderOfStarts() {
        sentence("Terms", "STARTS are ordered as rows of numbers.");
        bench.picture(6, 16);
        sameStart("the first of all", 0, 0, 0, 0, 0, 0, 0);
        bench.see(0, 0, 2, 3);
        sameStart("the last place counts least", 0, 0, 0, 0, 0, 0, 3);
        bench.must(0, 5, 2);
        sameStart("then the one ahead", 0, 0, 0, 0, 0, 3, 2);
        bench.see(0, 0, 0, 1);
        sameStart("place 1 ahead of place 0", 0, 0, 1, 0, 0, 3, 2);
        bench.must(0, 1, 3);
        sameStart("place 0 at last", 0, 1, 3, 0, 0, 3, 2);
        bench.see(0, 0, 1, 2);
        sameStart("place 3 ahead of place 2", 0, 1, 3, 0, 2, 3, 2);
        bench.picture(3, 2);
        bench.see(1, 1, 0, 3);
        sameStart("any of three places", 1, 0, 0, 3);
        bench.see(1, 0, 0, 2);
        sameStart("with another one", 1, 0, 2, 3);
        bench.must(1, 2, 2);
        sameStart("that is not where it was", 1, 2, 3, 2);
        setMust(1, 3, 3, 3);
        sameStart("there is none", 1, NONE, NONE, NONE);
        bench.see(1, 0, 0, 3);
        sameStart("the last of all", 1, 3, 3, 3);
    }

    private void bandByFirstStart() {
        sentence("Terms", "THE BAND of a PICTURE: by the first START with which it CAN BE TIED;");
        bench.picture(6, 16);
        sameTiedColours("the first of all", 0, 0, 0, 0, 0, 0, 0);
        bench.see(0, 0, 2, 3);
        bench.see(0, 0, 0, 1);
        sameTiedColours("two told", 0, 0, 1, 0, 0, 0, 3);
        setMust(0, 1, 3, 3, 3, 3, 3);
        sameTiedColours("all told at first", 0, 1, 3, 3, 3, 3, 3);
        bench.picture(2, 1);
        bench.see(1, 0, 0, 2);
        sameTiedColours("of the least size", 1, 0, 2);
    }

    private void sameTiedColours(String what, int picture, int... colours) {
        int band = bench.tie(picture);
        for (int thread = 0; thread < colours.length; thread++) {
            checks.same(what + ", thread " + thread, bench.colour(band, thread, 0), colours[thread]);
        }
        checks.noElement(what + ", a thread more", () -> bench.colour(band, colours.length, 0));
    }

    private void leastKinds() {
        sentence("Terms", "its KINDS: KNOT by KNOT, ROW 0 first, from the left, the least KIND with which the rest can "
            + "be done still.");
        for (int threads = 2; threads <= 6; threads++) {
            int band = bench.tie(bench.picture(threads, 16));
            for (int row = 0; row < 16; row++) {
                for (int knot = 0; knot < knotsOf(threads, row); knot++) {
                    checks.same("nothing told", bench.knot(band, row, knot, NONE), 0);
                }
            }
        }
        bench = new KnotBand();
        bench.picture(4, 2);
        setMust(0, 1, 2, 2, 3);
        bench.see(0, 1, 0, 2);
        int band = bench.tie(0);
        checks.same("the left one may change", bench.knot(band, 0, 0, NONE), 0);
        checks.same("the right one must stay, then", bench.knot(band, 0, 1, NONE), 2);
        checks.same("and shows as the right one", bench.knot(band, 1, 0, NONE), 1);
        bench.picture(3, 4);
        setMust(1, 1, 2, 3);
        bench.see(1, 3, 0, 1);
        band = bench.tie(1);
        for (int row = 0; row < 4; row++) {
            checks.same("the first rows change, the last one does what is left", bench.knot(band, row, 0, NONE),
                row == 3 ? 1 : 0);
        }
        leastKindsAtTheLeft();
        leastKindsAtTheRight();
    }

    private void leastKindsAtTheLeft() {
        bench = new KnotBand();
        bench.picture(3, 2);
        setMust(0, 1, 2, 3);
        sameKindsTold(0, 0, list(1, 1), list(0, 0));
        sameKindsTold(0, 0, list(2, 1), list(1, 0));
        sameKindsTold(0, 0, list(1, 2), list(2, 0));
        sameKindsTold(0, 0, list(2, 2), list(3, 0));
        sameKindsTold(0, 0, list(1, 3), list(0, 1));
        sameKindsTold(0, 0, list(UNTOLD, 2), list(2, 0));
        sameKindsTold(0, 0, list(2, UNTOLD), list(1, 0));
        bench = new KnotBand();
        bench.picture(3, 16);
        setMust(0, 1, 2, 3);
        // Behind fourteen rows in which all change, the colours stand 2, 3, 1.
        sameKindsTold(14, 0, list(2, 2), list(0, 0));
        sameKindsTold(14, 0, list(3, 2), list(1, 0));
        sameKindsTold(14, 0, list(2, 3), list(2, 0));
        sameKindsTold(14, 0, list(3, 3), list(3, 0));
        sameKindsTold(14, 0, list(2, 1), list(0, 1));
        sameKindsTold(14, 0, list(3, 1), list(1, 1));
        sameKindsTold(14, 0, list(UNTOLD, 3), list(2, 0));
    }

    private void leastKindsAtTheRight() {
        bench = new KnotBand();
        bench.picture(6, 2);
        setMust(0, 0, 0, 0, 1, 2, 3);
        sameKindsAtTheRight(0);
        bench = new KnotBand();
        bench.picture(6, 16);
        // Behind fourteen rows in which all change, these stand 0, 0, 0, 1, 2, 3, too.
        setMust(0, 0, 0, 2, 0, 3, 1);
        sameKindsAtTheRight(14);
    }

    private void sameKindsAtTheRight(int row) {
        sameKindsTold(row, 2, list(2, 0), list(0, 0));
        sameKindsTold(row, 2, list(3, 0), list(1, 0));
        sameKindsTold(row, 2, list(2, 2), list(2, 1));
        sameKindsTold(row, 2, list(3, 2), list(3, 1));
        sameKindsTold(row, 2, list(2, 3), list(0, 1));
        sameKindsTold(row, 2, list(3, 3), list(1, 1));
        sameKindsTold(row, 2, list(UNTOLD, 2), list(2, 1));
    }

    /** Of picture 0, with colours told of a knot of a row and of the one behind it in the next row: their kinds. */
    private void sameKindsTold(int row, int knot, int[] told, int[] kinds) {
        int next = Math.max(knot - 1, 0);
        bench.see(0, row, knot, told[0]);
        bench.see(0, row + 1, next, told[1]);
        int band = bench.tie(0);
        String what = "told " + told[0] + " and " + told[1] + " from row " + row + " on: ";
        checks.same(what + "kind", bench.knot(band, row, knot, NONE), kinds[0]);
        checks.same(what + "next kind", bench.knot(band, row + 1, next, NONE), kinds[1]);
    }

    private void suspects() {
        sentence("Terms", "SUSPECTS of a PICTURE that CAN'T BE TIED: those KNOTS with a told COLOUR of which each "
            + "alone, if it were not told, would let it be tied (in their order).");
        bench.picture(6, 16);
        setMust(0, 0, 0, 0, 0, 0, 0);
        sameSuspectsEverywhere("nothing else told", UNTOLD);
        bench = new KnotBand();
        bench.band(6);
        addRows(0, 16, 0);
        bench.picture(6, 16);
        bench.copy(0, 0);
        setMust(0, 0, 0, 0, 0, 0, 0);
        sameSuspectsEverywhere("all else told", 0);
        suspectsOfTwoThreads();
        bench = new KnotBand();
        bench.picture(4, 2);
        setMust(0, 1, UNTOLD, UNTOLD, 1);
        bench.see(0, 0, 0, 2);
        bench.see(0, 0, 1, 3);
        sameSuspects("it can be tied");
        bench.see(0, 1, 0, 0);
        sameSuspects("from the left, and row by row", 0, 1, 8);
        bench.must(0, 1, 2);
        sameSuspects("the second alone leaves room then", 1, 8);
        bench.must(0, 2, 3);
        sameSuspects("none but the last does", 8);
        suspectsBesideMoves();
    }

    /** The other knots that are told can be only if threads change places, ahead of the wrong one or in it. */
    private void suspectsBesideMoves() {
        bench = new KnotBand();
        bench.picture(3, 4);
        setMust(0, 1, 2, 3);
        bench.see(0, 1, 0, 1);
        bench.see(0, 3, 0, 0);
        sameSuspects("a change in row 0", 24);
        bench.see(0, 1, 0, 0);
        bench.see(0, 2, 0, 3);
        bench.see(0, 3, 0, UNTOLD);
        sameSuspects("a change in the wrong one itself", 8);
        bench = new KnotBand();
        bench.picture(6, 16);
        setMust(0, 0, 0, 0, 0, 0, 3);
        bench.see(0, 1, 1, 3);
        bench.see(0, 15, 1, 1);
        sameSuspects("the last thread changes in row 0", 121);
        bench.see(0, 1, 0, 3);
        bench.see(0, 15, 1, UNTOLD);
        sameSuspects("it can't be at both knots of row 1, nor come to the first", 8);
    }

    /** Each knot in turn is the wrong one. */
    private void sameSuspectsEverywhere(String what, int right) {
        for (int row = 0; row < 16; row++) {
            for (int knot = 0; knot < knotsOf(6, row); knot++) {
                bench.see(0, row, knot, 1);
                sameSuspects(what, 8 * row + knot);
                bench.see(0, row, knot, right);
            }
        }
        sameSuspects(what + ", none wrong");
    }

    /** Only two colours can be seen in such a picture. */
    private void suspectsOfTwoThreads() {
        bench = new KnotBand();
        bench.picture(2, 15);
        bench.see(0, 0, 0, 0);
        bench.see(0, 2, 0, 1);
        sameSuspects("two colours");
        bench.see(0, 14, 0, 2);
        sameSuspects("any one of three", 0, 16, 112);
        bench.see(0, 8, 0, 0);
        sameSuspects("not one of two that say the same", 16, 112);
        bench.see(0, 8, 0, 2);
        sameSuspects("nor of these two", 0, 16);
        bench.see(0, 8, 0, 3);
        sameSuspects("four colours: none alone");
        checks.same("it can't be tied all the same", bench.starts(0), 0);
    }
}
