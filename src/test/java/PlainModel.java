import java.util.ArrayList;
import java.util.List;
import java.util.NoSuchElementException;

/** The document's words done as literally as can be, with lists and plain search; slow, and only for tests. */
final class PlainModel {
    private static final class Band {
        int[] colours;
        List<int[]> rows = new ArrayList<>();
    }

    private static final class Picture {
        int[] must;
        int[][] seen;
    }

    private final List<Band> bands = new ArrayList<>();
    private final List<Picture> pictures = new ArrayList<>();

    int band(int threads) {
        if (bands.size() == 8 || threads < 2 || threads > 6) {
            return -1;
        }
        Band band = new Band();
        band.colours = new int[threads];
        bands.add(band);
        return bands.size() - 1;
    }

    int colour(int band, int thread, int colour) {
        int[] colours = at(bands, band).colours;
        within(thread, colours.length);
        allowed(colour, 0, 3);
        int was = colours[thread];
        colours[thread] = colour;
        return was;
    }

    int row(int band, int kinds) {
        Band it = at(bands, band);
        if (it.rows.size() == 16) {
            return -1;
        }
        int[] row = new int[pairs(it.colours.length, it.rows.size()).size()];
        for (int k = 0; k < row.length; k++) {
            boolean low = (kinds & (1 << (2 * k))) != 0;
            boolean high = (kinds & (1 << (2 * k + 1))) != 0;
            row[k] = (low ? 1 : 0) + (high ? 2 : 0);
        }
        it.rows.add(row);
        return it.rows.size();
    }

    int knot(int band, int row, int knot, int kind) {
        int[] kinds = at(at(bands, band).rows, row);
        within(knot, kinds.length);
        allowed(kind, -1, 3);
        int was = kinds[knot];
        kinds[knot] = kind == -1 ? was : kind;
        return was;
    }

    int shows(int band, int row, int knot) {
        Band it = at(bands, band);
        within(knot, at(it.rows, row).length);
        return it.colours[showing(it, row, knot)];
    }

    int thread(int band, int row, int place) {
        Band it = at(bands, band);
        within(row, it.rows.size() + 1);
        within(place, it.colours.length);
        return standing(it, row)[place];
    }

    int used(int band, int thread) {
        Band it = at(bands, band);
        within(thread, it.colours.length);
        int used = 0;
        for (int row = 0; row < it.rows.size(); row++) {
            int[] standing = standing(it, row);
            for (int knot = 0; knot < it.rows.get(row).length; knot++) {
                int left = pairs(standing.length, row).get(knot);
                if (showing(it, row, knot) == thread) {
                    used += 5;
                } else if (standing[left] == thread || standing[left + 1] == thread) {
                    used += 1;
                }
            }
        }
        return used;
    }

    int home(int band, int what) {
        Band it = at(bands, band);
        within(what, 2);
        if (it.rows.size() % 2 == 1) {
            return -1;
        }
        int[] standing = standing(it, 0);
        for (int times = 1; ; times++) {
            for (int row = 0; row < it.rows.size(); row++) {
                tieRow(standing, it.rows.get(row), row);
            }
            boolean home = true;
            for (int place = 0; place < standing.length; place++) {
                int thread = standing[place];
                home &= what == 0 ? thread == place : it.colours[thread] == it.colours[place];
            }
            if (home) {
                return times;
            }
        }
    }

    int unlike(int band, int other) {
        Band one = at(bands, band);
        Band two = at(bands, other);
        if (one.colours.length != two.colours.length || one.rows.size() != two.rows.size()) {
            throw new IllegalArgumentException();
        }
        int unlike = 0;
        for (int row = 0; row < one.rows.size(); row++) {
            for (int knot = 0; knot < one.rows.get(row).length; knot++) {
                unlike += shows(band, row, knot) != shows(other, row, knot) ? 1 : 0;
            }
        }
        return unlike;
    }

    int picture(int threads, int rows) {
        if (pictures.size() == 8 || threads < 2 || threads > 6 || rows < 1 || rows > 16) {
            return -1;
        }
        Picture picture = new Picture();
        picture.must = fours(threads);
        picture.seen = new int[rows][];
        for (int row = 0; row < rows; row++) {
            picture.seen[row] = fours(pairs(threads, row).size());
        }
        pictures.add(picture);
        return pictures.size() - 1;
    }

    int see(int picture, int row, int knot, int colour) {
        int[][] seen = at(pictures, picture).seen;
        within(row, seen.length);
        within(knot, seen[row].length);
        allowed(colour, 0, 4);
        int was = seen[row][knot];
        seen[row][knot] = colour;
        return was;
    }

    int must(int picture, int place, int colour) {
        int[] must = at(pictures, picture).must;
        within(place, must.length);
        allowed(colour, 0, 4);
        int was = must[place];
        must[place] = colour;
        return was;
    }

    int copy(int picture, int band) {
        Picture to = at(pictures, picture);
        Band from = at(bands, band);
        if (to.must.length != from.colours.length || to.seen.length != from.rows.size()) {
            return 0;
        }
        for (int row = 0; row < to.seen.length; row++) {
            for (int knot = 0; knot < to.seen[row].length; knot++) {
                to.seen[row][knot] = shows(band, row, knot);
            }
        }
        return 1;
    }

    int starts(int picture) {
        return new Search(at(pictures, picture)).starts().size();
    }

    int start(int picture, int place) {
        Picture it = at(pictures, picture);
        within(place, it.must.length);
        List<int[]> starts = new Search(it).starts();
        return starts.isEmpty() ? -1 : starts.get(0)[place];
    }

    int tie(int picture) {
        Search search = new Search(at(pictures, picture));
        List<int[]> starts = search.starts();
        if (starts.isEmpty() || bands.size() == 8) {
            return -1;
        }
        Band band = new Band();
        band.colours = starts.get(0).clone();
        band.rows = search.leastKinds(starts.get(0));
        bands.add(band);
        return bands.size() - 1;
    }

    int suspect(int picture, int i) {
        List<Integer> suspects = suspects(at(pictures, picture));
        return i == -1 ? suspects.size() : at(suspects, i);
    }

    int count(int what) {
        within(what, 2);
        return what == 0 ? bands.size() : pictures.size();
    }

    private static List<Integer> suspects(Picture picture) {
        List<Integer> suspects = new ArrayList<>();
        if (!new Search(picture).starts().isEmpty()) {
            return suspects;
        }
        for (int row = 0; row < picture.seen.length; row++) {
            for (int knot = 0; knot < picture.seen[row].length; knot++) {
                int told = picture.seen[row][knot];
                picture.seen[row][knot] = 4;
                if (told != 4 && !new Search(picture).starts().isEmpty()) {
                    suspects.add(8 * row + knot);
                }
                picture.seen[row][knot] = told;
            }
        }
        return suspects;
    }

    /** Looks through all kinds of all knots; remembers only what it has found out already. */
    private static final class Search {
        private final Picture picture;
        private final List<int[]> knots = new ArrayList<>();
        private final byte[][] known;

        Search(Picture picture) {
            this.picture = picture;
            for (int row = 0; row < picture.seen.length; row++) {
                for (int knot = 0; knot < picture.seen[row].length; knot++) {
                    knots.add(new int[] {row, knot, pairs(picture.must.length, row).get(knot)});
                }
            }
            known = new byte[knots.size()][4096];
        }

        List<int[]> starts() {
            List<int[]> starts = new ArrayList<>();
            addStarts(new int[picture.must.length], 0, starts);
            return starts;
        }

        private void addStarts(int[] start, int place, List<int[]> starts) {
            if (place == start.length) {
                if (canBeDone(start, 0)) {
                    starts.add(start.clone());
                }
                return;
            }
            for (int colour = 0; colour < 4; colour++) {
                if (picture.must[place] == 4 || picture.must[place] == colour) {
                    start[place] = colour;
                    addStarts(start, place + 1, starts);
                }
            }
        }

        List<int[]> leastKinds(int[] start) {
            List<int[]> rows = new ArrayList<>();
            for (int[] row : picture.seen) {
                rows.add(new int[row.length]);
            }
            int[] colours = start.clone();
            for (int k = 0; k < knots.size(); k++) {
                int kind = 0;
                while (!(fits(colours, k, kind) && canBeDone(behind(colours, k, kind), k + 1))) {
                    kind++;
                }
                rows.get(knots.get(k)[0])[knots.get(k)[1]] = kind;
                colours = behind(colours, k, kind);
            }
            return rows;
        }

        private boolean canBeDone(int[] colours, int k) {
            if (k == knots.size()) {
                return true;
            }
            int name = 0;
            for (int colour : colours) {
                name = 4 * name + colour;
            }
            if (known[k][name] == 0) {
                boolean can = false;
                for (int kind = 0; kind < 4 && !can; kind++) {
                    can = fits(colours, k, kind) && canBeDone(behind(colours, k, kind), k + 1);
                }
                known[k][name] = (byte) (can ? 1 : 2);
            }
            return known[k][name] == 1;
        }

        private boolean fits(int[] colours, int k, int kind) {
            int[] knot = knots.get(k);
            int told = picture.seen[knot[0]][knot[1]];
            boolean left = kind == 0 || kind == 2;
            return told == 4 || told == colours[left ? knot[2] : knot[2] + 1];
        }

        private int[] behind(int[] colours, int k, int kind) {
            int[] behind = colours.clone();
            if (kind == 0 || kind == 1) {
                swap(behind, knots.get(k)[2]);
            }
            return behind;
        }
    }

    private static int showing(Band band, int row, int knot) {
        int left = pairs(band.colours.length, row).get(knot);
        int kind = band.rows.get(row)[knot];
        return standing(band, row)[kind == 0 || kind == 2 ? left : left + 1];
    }

    private static int[] standing(Band band, int rows) {
        int[] standing = new int[band.colours.length];
        for (int place = 0; place < standing.length; place++) {
            standing[place] = place;
        }
        for (int row = 0; row < rows; row++) {
            tieRow(standing, band.rows.get(row), row);
        }
        return standing;
    }

    private static void tieRow(int[] standing, int[] kinds, int row) {
        for (int knot = 0; knot < kinds.length; knot++) {
            if (kinds[knot] == 0 || kinds[knot] == 1) {
                swap(standing, pairs(standing.length, row).get(knot));
            }
        }
    }

    private static void swap(int[] places, int left) {
        int kept = places[left];
        places[left] = places[left + 1];
        places[left + 1] = kept;
    }

    /** The left places of a row's knots. */
    private static List<Integer> pairs(int threads, int row) {
        List<Integer> lefts = new ArrayList<>();
        for (int left = row % 2; left + 1 < threads; left += 2) {
            lefts.add(left);
        }
        return lefts;
    }

    private static int[] fours(int length) {
        int[] row = new int[length];
        java.util.Arrays.fill(row, 4);
        return row;
    }

    private static <T> T at(List<T> list, int index) {
        within(index, list.size());
        return list.get(index);
    }

    private static void within(int index, int size) {
        if (index < 0 || index >= size) {
            throw new NoSuchElementException();
        }
    }

    private static void allowed(int value, int least, int most) {
        if (value < least || value > most) {
            throw new IllegalArgumentException();
        }
    }
}
