import java.util.NoSuchElementException;

/** Knotted bands and the pictures wished of them; shared/DOC.md numbers the promises kept here. */
public final class KnotBand {
    public static final int NONE = -1;

    private static final int MOST_BANDS = 8;
    private static final int MOST_PICTURES = 8;
    private static final int LEAST_THREADS = 2;
    private static final int MOST_THREADS = 6;
    private static final int MOST_ROWS = 16;
    private static final int MOST_KNOTS_OF_ROW = 3;
    /** Eight even rows of three knots and eight odd ones of two. */
    private static final int MOST_KNOTS = 40;
    private static final int SPOTS = MOST_ROWS * MOST_KNOTS_OF_ROW;
    private static final int COLOURS = 4;
    private static final int UNTOLD = 4;
    private static final int KINDS = 4;
    /** Of the kinds, those below this one let the two threads change places. */
    private static final int FIRST_STAYING_KIND = 2;
    private static final int USED_SHOWING = 5;
    private static final int USED_HIDDEN = 1;
    /** No order of six places or fewer needs more repetitions to come back to itself. */
    private static final int MOST_TIMES_TO_HOME = 6;

    private final Band[] bands = new Band[MOST_BANDS];
    private final Picture[] pictures = new Picture[MOST_PICTURES];
    private final Loom loom = new Loom();
    private int bandCount = 0;
    private int pictureCount = 0;

    public KnotBand() {
        for (int i = 0; i < MOST_BANDS; i++) {
            bands[i] = new Band();
        }
        for (int i = 0; i < MOST_PICTURES; i++) {
            pictures[i] = new Picture();
        }
    }

    public int band(int threads) {
        if (bandCount >= MOST_BANDS || !mayBeThreads(threads)) {
            return NONE;
        }
        bands[bandCount].threads = threads;
        return bandCount++;
    }

    public int colour(int band, int thread, int colour) throws NoSuchElementException, IllegalArgumentException {
        Band asked = bandAt(band);
        needElement(thread, asked.threads);
        needArgument(colour, COLOURS);
        int before = asked.colours[thread];
        asked.colours[thread] = colour;
        return before;
    }

    public int row(int band, int kinds) throws NoSuchElementException {
        Band asked = bandAt(band);
        if (asked.rows >= MOST_ROWS) {
            return NONE;
        }
        asked.kinds[asked.rows] = kinds;
        asked.rows++;
        return asked.rows;
    }

    public int knot(int band, int row, int knot, int kind) throws NoSuchElementException, IllegalArgumentException {
        Band asked = bandAt(band);
        needElement(row, asked.rows);
        needElement(knot, knotsIn(asked.threads, row));
        int before = kindIn(asked.kinds[row], knot);
        if (kind != NONE) {
            needArgument(kind, KINDS);
            asked.kinds[row] = withKind(asked.kinds[row], knot, kind);
        }
        return before;
    }

    public int shows(int band, int row, int knot) throws NoSuchElementException {
        Band asked = bandAt(band);
        needElement(row, asked.rows);
        needElement(knot, knotsIn(asked.threads, row));
        asked.walk(row + 1);
        return asked.shown[spotOf(row, knot)];
    }

    public int thread(int band, int row, int place) throws NoSuchElementException {
        Band asked = bandAt(band);
        needElement(row, asked.rows + 1);
        needElement(place, asked.threads);
        asked.walk(row);
        return asked.standing[place];
    }

    public int used(int band, int thread) throws NoSuchElementException {
        Band asked = bandAt(band);
        needElement(thread, asked.threads);
        asked.walk(asked.rows);
        return asked.spent[thread];
    }

    public int home(int band, int what) throws NoSuchElementException {
        Band asked = bandAt(band);
        needElement(what, 2);
        if ((asked.rows & 1) == 1) {
            return NONE;
        }
        return asked.timesToHome(what == 1);
    }

    public int unlike(int band, int other) throws NoSuchElementException, IllegalArgumentException {
        Band one = bandAt(band);
        Band two = bandAt(other);
        if (one.threads != two.threads || one.rows != two.rows) {
            throw new IllegalArgumentException("bands unlike in threads or rows");
        }
        one.walk(one.rows);
        two.walk(two.rows);
        int differing = 0;
        for (int row = 0; row < one.rows; row++) {
            int knots = knotsIn(one.threads, row);
            for (int knot = 0; knot < knots; knot++) {
                int spot = spotOf(row, knot);
                if (one.shown[spot] != two.shown[spot]) {
                    differing++;
                }
            }
        }
        return differing;
    }

    public int picture(int threads, int rows) {
        if (pictureCount >= MOST_PICTURES || !mayBeThreads(threads) || rows < 1 || rows > MOST_ROWS) {
            return NONE;
        }
        pictures[pictureCount].begin(threads, rows);
        return pictureCount++;
    }

    public int see(int picture, int row, int knot, int colour) throws NoSuchElementException, IllegalArgumentException {
        Picture asked = pictureAt(picture);
        needElement(row, asked.rows);
        needElement(knot, knotsIn(asked.threads, row));
        needArgument(colour, UNTOLD + 1);
        int spot = spotOf(row, knot);
        int before = asked.told[spot];
        asked.told[spot] = colour;
        asked.workedOut = false;
        return before;
    }

    public int must(int picture, int place, int colour) throws NoSuchElementException, IllegalArgumentException {
        Picture asked = pictureAt(picture);
        needElement(place, asked.threads);
        needArgument(colour, UNTOLD + 1);
        int before = asked.toldAtFirst[place];
        asked.toldAtFirst[place] = colour;
        asked.workedOut = false;
        return before;
    }

    public boolean copy(int picture, int band) throws NoSuchElementException {
        Picture asked = pictureAt(picture);
        Band shown = bandAt(band);
        if (asked.threads != shown.threads || asked.rows != shown.rows) {
            return false;
        }
        shown.walk(shown.rows);
        for (int spot = 0; spot < SPOTS; spot++) {
            asked.told[spot] = shown.shown[spot];
        }
        asked.workedOut = false;
        return true;
    }

    public int starts(int picture) throws NoSuchElementException {
        return workedOutAt(picture).startCount;
    }

    public int start(int picture, int place) throws NoSuchElementException {
        needElement(place, pictureAt(picture).threads);
        Picture asked = workedOutAt(picture);
        return asked.startCount == 0 ? NONE : colourIn(asked.firstStart, place);
    }

    public int tie(int picture) throws NoSuchElementException {
        Picture asked = workedOutAt(picture);
        if (asked.startCount == 0 || bandCount >= MOST_BANDS) {
            return NONE;
        }
        bands[bandCount].become(asked);
        return bandCount++;
    }

    public int suspect(int picture, int i) throws NoSuchElementException {
        Picture asked = workedOutAt(picture);
        if (i == NONE) {
            return asked.suspectCount;
        }
        needElement(i, asked.suspectCount);
        return asked.suspects[i];
    }

    public int count(int what) throws NoSuchElementException {
        needElement(what, 2);
        return what == 0 ? bandCount : pictureCount;
    }

    private Band bandAt(int band) {
        needElement(band, bandCount);
        return bands[band];
    }

    private Picture pictureAt(int picture) {
        needElement(picture, pictureCount);
        return pictures[picture];
    }

    private Picture workedOutAt(int picture) {
        Picture asked = pictureAt(picture);
        if (!asked.workedOut) {
            loom.workOut(asked);
        }
        return asked;
    }

    private static void needElement(int index, int size) {
        if (index < 0 || index >= size) {
            throw new NoSuchElementException("no such element");
        }
    }

    private static void needArgument(int value, int size) {
        if (value < 0 || value >= size) {
            throw new IllegalArgumentException("no such colour or kind");
        }
    }

    private static boolean mayBeThreads(int threads) {
        return threads >= LEAST_THREADS && threads <= MOST_THREADS;
    }

    private static int knotsIn(int threads, int row) {
        return (threads - (row & 1)) >> 1;
    }

    private static int leftPlaceOf(int row, int knot) {
        return 2 * knot + (row & 1);
    }

    private static int spotOf(int row, int knot) {
        return MOST_KNOTS_OF_ROW * row + knot;
    }

    private static int kindIn(int kinds, int knot) {
        return (kinds >> (2 * knot)) & 3;
    }

    private static int withKind(int kinds, int knot, int kind) {
        return (kinds & ~(3 << (2 * knot))) | (kind << (2 * knot));
    }

    private static int showingPlace(int left, int kind) {
        return left + (kind & 1);
    }

    /** The lowest bit of a place in a row of colours: place 0 stands highest, so that numbers order as rows do. */
    private static int bitOf(int place) {
        return 2 * (MOST_THREADS - 1 - place);
    }

    private static int colourIn(int colours, int place) {
        return (colours >> bitOf(place)) & 3;
    }

    /** The number with its two bits at low and the two above them changed for one another. */
    private static int exchanged(int number, int low) {
        int unlike = ((number >> low) ^ (number >> (low + 2))) & 3;
        return number ^ (unlike << low) ^ (unlike << (low + 2));
    }

    private static final class Band {
        private final int[] colours = new int[MOST_THREADS];
        /** By row, as the face's row() takes them. */
        private final int[] kinds = new int[MOST_ROWS];
        private int threads = 0;
        private int rows = 0;
        /** What the last walk found: the thread at each place, what is used of each, what each knot showed. */
        private final int[] standing = new int[MOST_THREADS];
        private final int[] spent = new int[MOST_THREADS];
        private final int[] shown = new int[SPOTS];
        /** The thread at each place when the band has been tied some times over. */
        private final int[] repeated = new int[MOST_THREADS];

        void become(Picture picture) {
            threads = picture.threads;
            rows = picture.rows;
            for (int place = 0; place < threads; place++) {
                colours[place] = colourIn(picture.firstStart, place);
            }
            for (int row = 0; row < rows; row++) {
                kinds[row] = picture.kinds[row];
            }
        }

        void walk(int rowsWalked) {
            for (int i = 0; i < threads; i++) {
                standing[i] = i;
                spent[i] = 0;
            }
            for (int row = 0; row < rowsWalked; row++) {
                int knots = knotsIn(threads, row);
                for (int knot = 0; knot < knots; knot++) {
                    walkKnot(row, knot);
                }
            }
        }

        private void walkKnot(int row, int knot) {
            int left = leftPlaceOf(row, knot);
            int kind = kindIn(kinds[row], knot);
            int leftThread = standing[left];
            int rightThread = standing[left + 1];
            int showing = standing[showingPlace(left, kind)];
            int hidden = showing == leftThread ? rightThread : leftThread;
            shown[spotOf(row, knot)] = colours[showing];
            spent[showing] += USED_SHOWING;
            spent[hidden] += USED_HIDDEN;
            if (kind < FIRST_STAYING_KIND) {
                standing[left] = rightThread;
                standing[left + 1] = leftThread;
            }
        }

        int timesToHome(boolean inColour) {
            walk(rows);
            for (int place = 0; place < threads; place++) {
                repeated[place] = standing[place];
            }
            for (int times = 1; times < MOST_TIMES_TO_HOME; times++) {
                if (isHome(inColour)) {
                    return times;
                }
                // The thread that begins at a place goes, every time, the way that the one walk has told.
                for (int place = 0; place < threads; place++) {
                    repeated[place] = standing[repeated[place]];
                }
            }
            return MOST_TIMES_TO_HOME;
        }

        private boolean isHome(boolean inColour) {
            for (int place = 0; place < threads; place++) {
                int thread = repeated[place];
                boolean asAtFirst = inColour ? colours[thread] == colours[place] : thread == place;
                if (!asAtFirst) {
                    return false;
                }
            }
            return true;
        }
    }

    private static final class Picture {
        private final int[] told = new int[SPOTS];
        private final int[] toldAtFirst = new int[MOST_THREADS];
        private int threads = 0;
        private int rows = 0;
        /** What the loom found; of no worth while workedOut is false. */
        private boolean workedOut = false;
        private int startCount = 0;
        private int firstStart = 0;
        private final int[] kinds = new int[MOST_ROWS];
        private final int[] suspects = new int[MOST_KNOTS];
        private int suspectCount = 0;

        void begin(int newThreads, int newRows) {
            threads = newThreads;
            rows = newRows;
            for (int spot = 0; spot < SPOTS; spot++) {
                told[spot] = UNTOLD;
            }
            for (int place = 0; place < MOST_THREADS; place++) {
                toldAtFirst[place] = place < threads ? UNTOLD : 0;
            }
        }
    }

    /**
     * Works pictures out, knot by knot as numbered through all rows. Changing places and showing at least one of two
     * colours are both the same seen from either side, so one step serves backward and forward.
     */
    private static final class Loom {
        private final int[] names = new int[MOST_KNOTS];
        private final int[] lefts = new int[MOST_KNOTS];
        private final int[] wished = new int[MOST_KNOTS];
        private int knotCount = 0;
        /** Ahead of each knot, and behind the last: with which standings the rest can be done. */
        private final Standings[] ahead = new Standings[MOST_KNOTS + 1];
        private final Standings now = new Standings();

        Loom() {
            for (int i = 0; i <= MOST_KNOTS; i++) {
                ahead[i] = new Standings();
            }
        }

        void workOut(Picture picture) {
            listKnots(picture);
            workBackward();
            now.fill();
            for (int place = 0; place < MOST_THREADS; place++) {
                if (picture.toldAtFirst[place] != UNTOLD) {
                    now.keep(place, picture.toldAtFirst[place]);
                }
            }
            picture.suspectCount = 0;
            picture.startCount = now.countShared(ahead[0]);
            picture.firstStart = now.firstShared(ahead[0]);
            if (picture.startCount > 0) {
                chooseKinds(picture);
            } else {
                findSuspects(picture);
            }
            picture.workedOut = true;
        }

        private void listKnots(Picture picture) {
            knotCount = 0;
            for (int row = 0; row < picture.rows; row++) {
                int knots = knotsIn(picture.threads, row);
                for (int knot = 0; knot < knots; knot++) {
                    names[knotCount] = 8 * row + knot;
                    lefts[knotCount] = leftPlaceOf(row, knot);
                    wished[knotCount] = picture.told[spotOf(row, knot)];
                    knotCount++;
                }
            }
        }

        private void workBackward() {
            ahead[knotCount].fill();
            for (int k = knotCount - 1; k >= 0; k--) {
                ahead[k].spread(ahead[k + 1], lefts[k]);
                if (wished[k] != UNTOLD) {
                    ahead[k].keepEither(lefts[k], wished[k]);
                }
            }
        }

        private void chooseKinds(Picture picture) {
            int standing = picture.firstStart;
            for (int k = 0; k < knotCount; k++) {
                int kind = leastKind(k, standing);
                int row = names[k] >> 3;
                picture.kinds[row] = withKind(picture.kinds[row], names[k] & 7, kind);
                standing = standingBehind(k, standing, kind);
            }
        }

        private int leastKind(int k, int standing) {
            for (int kind = 0; kind < KINDS - 1; kind++) {
                int shown = colourIn(standing, showingPlace(lefts[k], kind));
                boolean asWished = wished[k] == UNTOLD || wished[k] == shown;
                if (asWished && ahead[k + 1].has(standingBehind(k, standing, kind))) {
                    return kind;
                }
            }
            // The standing is one of those ahead of this knot, so the last kind does what the others can't.
            return KINDS - 1;
        }

        private int standingBehind(int k, int standing, int kind) {
            return kind < FIRST_STAYING_KIND ? exchanged(standing, bitOf(lefts[k] + 1)) : standing;
        }

        /** A knot is a suspect if what is reached ahead of it meets, past it, what can be done behind it. */
        private void findSuspects(Picture picture) {
            for (int k = 0; k < knotCount; k++) {
                now.spread(now, lefts[k]);
                if (wished[k] != UNTOLD) {
                    if (now.firstShared(ahead[k + 1]) != NONE) {
                        picture.suspects[picture.suspectCount] = names[k];
                        picture.suspectCount++;
                    }
                    now.keepEither(lefts[k], wished[k]);
                }
            }
        }
    }

    /**
     * A set of rows of colours, one for each of six places, a bit for each of the 4096: places 0 to 2 tell the word,
     * places 3 to 5 the bit in it. So a knot's step costs 64 words, not 4096 rows.
     */
    private static final class Standings {
        private static final int WORDS = 64;
        private static final int BITS = 64;
        private static final long ALL = -1L;
        private static final long BLOCK = 0xFFFFL;
        private static final long PLACE_3_IS_0 = BLOCK;
        private static final long PLACE_4_IS_0 = 0x000F000F000F000FL;
        private static final long PLACE_5_IS_0 = 0x1111111111111111L;
        /** Where place 3's colour is less than place 4's, by 1, 2 and 3; the exchanged row stands 12, 24, 36 higher. */
        private static final long[] PLACE_3_LESS = {0x0000F0000F0000F0L, 0x00000000F0000F00L, 0x000000000000F000L};
        private static final int PLACE_3_APART = 12;
        /** The same of places 4 and 5; the exchanged row stands 3, 6, 9 higher. */
        private static final long[] PLACE_4_LESS = {0x0842084208420842L, 0x0084008400840084L, 0x0008000800080008L};
        private static final int PLACE_4_APART = 3;

        private final long[] words = new long[WORDS];

        void fill() {
            for (int w = 0; w < WORDS; w++) {
                words[w] = ALL;
            }
        }

        void keep(int place, int colour) {
            for (int w = 0; w < WORDS; w++) {
                words[w] &= having(w, place, colour);
            }
        }

        /** Keeps those that have the colour at the left place or at the next one. */
        void keepEither(int left, int colour) {
            for (int w = 0; w < WORDS; w++) {
                words[w] &= having(w, left, colour) | having(w, left + 1, colour);
            }
        }

        private static long having(int w, int place, int colour) {
            switch (place) {
                case 3:
                    return PLACE_3_IS_0 << (16 * colour);
                case 4:
                    return PLACE_4_IS_0 << (4 * colour);
                case 5:
                    return PLACE_5_IS_0 << colour;
                default:
                    return ((w >> (2 * (2 - place))) & 3) == colour ? ALL : 0L;
            }
        }

        /**
         * Becomes the other set with all that comes of it by an exchange at the left place and the next one. The other
         * set may be this one: an exchange only pairs rows up, so what is joined early is joined no wider.
         */
        void spread(Standings other, int left) {
            switch (left) {
                case 2:
                    spreadAcross(other.words);
                    break;
                case 3:
                    spreadInside(other.words, PLACE_3_LESS, PLACE_3_APART);
                    break;
                case 4:
                    spreadInside(other.words, PLACE_4_LESS, PLACE_4_APART);
                    break;
                default:
                    spreadBetween(other.words, 2 * (1 - left));
                    break;
            }
        }

        private void spreadBetween(long[] from, int low) {
            for (int w = 0; w < WORDS; w++) {
                words[w] = from[w] | from[exchanged(w, low)];
            }
        }

        /** Places 2 and 3: block y of word x and block x of word y, in each four words. */
        private void spreadAcross(long[] from) {
            for (int w = 0; w < WORDS; w++) {
                int x = w & 3;
                long joined = from[w];
                for (int y = 0; y < COLOURS; y++) {
                    joined |= ((from[w - x + y] >>> (16 * x)) & BLOCK) << (16 * y);
                }
                words[w] = joined;
            }
        }

        private void spreadInside(long[] from, long[] less, int apart) {
            for (int w = 0; w < WORDS; w++) {
                long word = from[w];
                long joined = word;
                for (int i = 0; i < less.length; i++) {
                    int far = apart * (i + 1);
                    joined |= ((word & less[i]) << far) | ((word >>> far) & less[i]);
                }
                words[w] = joined;
            }
        }

        boolean has(int standing) {
            return ((words[standing >> 6] >>> (standing & 63)) & 1L) != 0L;
        }

        int countShared(Standings other) {
            int shared = 0;
            for (int w = 0; w < WORDS; w++) {
                shared += Long.bitCount(words[w] & other.words[w]);
            }
            return shared;
        }

        /** The least row of colours that is in both; NONE if there is none. */
        int firstShared(Standings other) {
            for (int w = 0; w < WORDS; w++) {
                long shared = words[w] & other.words[w];
                for (int bit = 0; shared != 0L && bit < BITS; bit++) {
                    if (((shared >>> bit) & 1L) != 0L) {
                        return BITS * w + bit;
                    }
                }
            }
            return NONE;
        }
    }
}
