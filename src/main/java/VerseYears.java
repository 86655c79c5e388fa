import java.util.Arrays;

/** Years hidden in verses: letters that are numbers, lines made of vocables, and stones read with broken letters. */
public final class VerseYears {
    public static final int BAD = -1, STATE = -2, FULL = -3, NONE = -9;

    private static final int CUSTOMS = 4;
    private static final int COUNTINGS = 3;
    private static final int MARKED = 1;
    private static final int ONCE = 2;
    private static final int LETTERS = 26;
    private static final int MOST_BYTES = 40;
    private static final int MOST_PARTS = 20;
    private static final int MOST_VOCABLES = 10;
    private static final int MOST_LETTERS = 8;
    private static final int MOST_FEET_OF_VOCABLE = 3;
    private static final int MOST_FEET = 8;
    private static final int MOST_FEET_OF_DOUBLE = 5;
    private static final int SORTS = 3;
    private static final int BEGINNING = 3;
    private static final int PLACES_OF_ORDER = 4;
    private static final int MOST_SUM = 3000;
    private static final int MOST_YEAR = 60000;
    private static final long MOST_READINGS = 2000000000L;
    /** The document gives line()'s refusal a number of its own. */
    private static final int BAD_LINE = -2;

    private static final int[] VALUES = {0, 1, 5, 10, 50, 100, 500, 1000};
    /** a .. z: i 1, v 5, x 10, l 50, c 100, d 500, m 1000. */
    private static final int[] FIRST_VALUES = {
        0, 0, 100, 500, 0, 0, 0, 0, 1, 0, 0, 50, 1000,
        0, 0, 0, 0, 0, 0, 0, 0, 5, 0, 10, 0, 0};
    /** Each kind asks the one over it before it looks at the byte, so a counting always asks all bodies up to ALL. */
    private static final int[] ASKED_BY_COUNTING = {1, 11, 111};

    private final Customs customs;
    private final Draft draft;
    private final Vocables vocables;
    private final Verses verses;
    private final Stone stone;
    private long asked;

    public VerseYears() {
        customs = new Customs();
        draft = new Draft();
        vocables = new Vocables();
        verses = new Verses(vocables, customs);
        stone = new Stone(draft, vocables, customs);
        asked = 0;
    }

    // ---- customs

    public int value(int custom, int letter, int v) {
        if (!isWithin(custom, CUSTOMS) || letter < 'a' || letter > 'z' || !isValue(v)) {
            return BAD;
        }
        verses.forget();
        return customs.replace(custom, letter, v);
    }

    public int worth(int counting, int custom, int letter, int ahead) {
        if (!isCustomary(counting, custom) || !isWithin(letter, 256) || !isWithin(ahead, 256)) {
            return BAD;
        }
        asked += ASKED_BY_COUNTING[counting];
        return customs.worthOf(counting, custom, letter, ahead);
    }

    // ---- the draft

    public int type(long v, int n) {
        if (n < 1 || n > 8 || !mayAllStand(v, n)) {
            return BAD;
        }
        if (draft.length + n > MOST_BYTES) {
            return FULL;
        }
        draft.append(v, n);
        return draft.length;
    }

    public int clear() {
        int had = draft.length;
        draft.wipe();
        return had;
    }

    public int sum(int counting, int custom) {
        if (!isCustomary(counting, custom)) {
            return BAD;
        }
        return sumOfDraft(counting, custom);
    }

    // ---- vocables, lines

    public int vocable(int feet, int sort) {
        if (feet < 1 || feet > MOST_FEET_OF_VOCABLE || !isWithin(sort, SORTS)) {
            return BAD;
        }
        if (!draft.isWord()) {
            return STATE;
        }
        if (vocables.size >= MOST_VOCABLES) {
            return FULL;
        }
        int number = vocables.size;
        vocables.take(draft, feet, sort);
        draft.wipe();
        verses.forget();
        return number;
    }

    public int about(int vocable, int what) {
        if (!isWithin(vocable, vocables.size)) {
            return BAD;
        }
        switch (what) {
            case 0: return vocables.lengths[vocable];
            case 1: return vocables.feet[vocable];
            case 2: return vocables.sorts[vocable];
            case 3: return vocables.texts[vocable * MOST_LETTERS];
            default: return BAD;
        }
    }

    public int order(int sort, int set) {
        if (!isWithin(sort, PLACES_OF_ORDER) || !isWithin(set, 1 << SORTS)) {
            return BAD;
        }
        int was = vocables.next[sort];
        vocables.next[sort] = set;
        verses.forget();
        return was;
    }

    public long many(int feet) {
        if (feet < 1 || feet > MOST_FEET) {
            return BAD;
        }
        return verses.ofFeet(feet);
    }

    public long lines(int feet, int y, int counting, int custom) {
        if (!isLineAsked(feet, y, counting, custom)) {
            return BAD;
        }
        return verses.ofSum(feet, y, counting, custom);
    }

    public int line(int feet, int y, int counting, int custom, long number, int i) {
        if (!isLineAsked(feet, y, counting, custom) || number < 0 || i < 0) {
            return BAD_LINE;
        }
        if (number >= verses.ofSum(feet, y, counting, custom)) {
            return BAD_LINE;
        }
        return verses.vocableAt(feet, y, number, i);
    }

    public long doubles(int feet, int y, int z, int counting, int one, int other) {
        if (feet > MOST_FEET_OF_DOUBLE || !isLineAsked(feet, y, counting, one)
                || !isLineAsked(feet, z, counting, other)) {
            return BAD;
        }
        return verses.ofTwoSums(feet, y, z, counting, one, other);
    }

    // ---- stones

    public int fit(int i) {
        if (!isWithin(i, draft.parts)) {
            return BAD;
        }
        return stone.fittingPart(i);
    }

    public int readings() {
        if (draft.parts == 0) {
            return STATE;
        }
        return stone.howManyReadings();
    }

    public int years(int counting, int custom, int what) {
        if (!isCustomary(counting, custom) || !isWithin(what, 4)) {
            return BAD;
        }
        if (draft.parts == 0) {
            return STATE;
        }
        stone.findYears(counting, custom);
        switch (what) {
            case 0: return stone.found;
            case 1: return stone.least;
            case 2: return stone.greatest;
            default: return stone.found == 1 ? 1 : 0;
        }
    }

    public int borne(int year) {
        if (year < 0 || year > MOST_YEAR) {
            return BAD;
        }
        int bits = 0;
        for (int custom = 0; custom < CUSTOMS; custom++) {
            for (int counting = 0; counting < COUNTINGS; counting++) {
                if (sumOfDraft(counting, custom) == year) {
                    bits |= 1 << (COUNTINGS * custom + counting);
                }
            }
        }
        return bits;
    }

    public int count(int what) {
        switch (what) {
            case 0: return vocables.size;
            case 1: return draft.length;
            case 2: return draft.parts;
            case 3: return draft.broken();
            default: return BAD;
        }
    }

    public long trace() {
        return asked;
    }

    // ---- what the calls share

    private int sumOfDraft(int counting, int custom) {
        return customs.sumOf(counting, custom, draft.bytes, 0, draft.length);
    }

    private static boolean isWithin(int number, int bound) {
        return number >= 0 && number < bound;
    }

    private static boolean isCustomary(int counting, int custom) {
        return isWithin(counting, COUNTINGS) && isWithin(custom, CUSTOMS);
    }

    private static boolean isLineAsked(int feet, int y, int counting, int custom) {
        return feet >= 1 && feet <= MOST_FEET && isWithin(y, MOST_SUM + 1) && isCustomary(counting, custom);
    }

    private static boolean isValue(int v) {
        for (int known : VALUES) {
            if (known == v) {
                return true;
            }
        }
        return false;
    }

    private static boolean mayAllStand(long v, int n) {
        for (int k = 0; k < n; k++) {
            int b = byteOf(v, k);
            if (b != ' ' && b != '?' && !isLetter(b)) {
                return false;
            }
        }
        return true;
    }

    private static int byteOf(long v, int k) {
        return (int) (v >>> (8 * k)) & 255;
    }

    private static boolean isCapital(int b) {
        return b >= 'A' && b <= 'Z';
    }

    private static boolean isLetter(int b) {
        return isCapital(b) || b >= 'a' && b <= 'z';
    }

    /** The values of the letters by each custom, and what texts are worth by them. */
    private static final class Customs {
        final int[] values = new int[CUSTOMS * LETTERS];

        Customs() {
            for (int custom = 0; custom < CUSTOMS; custom++) {
                System.arraycopy(FIRST_VALUES, 0, values, custom * LETTERS, LETTERS);
            }
        }

        int replace(int custom, int letter, int v) {
            int place = custom * LETTERS + letter - 'a';
            int was = values[place];
            values[place] = v;
            return was;
        }

        int worthOf(int counting, int custom, int letter, int ahead) {
            if (!isLetter(letter)) {
                return 0;
            }
            if (counting >= MARKED && !isCapital(letter)) {
                return 0;
            }
            if (counting >= ONCE && letter == ahead) {
                return 0;
            }
            return values[custom * LETTERS + letter - (isCapital(letter) ? 'A' : 'a')];
        }

        int sumOf(int counting, int custom, int[] text, int from, int to) {
            int total = 0;
            int ahead = ' ';
            for (int k = from; k < to; k++) {
                total += worthOf(counting, custom, text[k], ahead);
                ahead = text[k];
            }
            return total;
        }
    }

    /** The text being written; its parts are found at each change, so that the stone's calls only look them up. */
    private static final class Draft {
        final int[] bytes = new int[MOST_BYTES];
        final int[] starts = new int[MOST_PARTS];
        final int[] ends = new int[MOST_PARTS];
        int length;
        int parts;

        void append(long v, int n) {
            for (int k = n - 1; k >= 0; k--) {
                bytes[length] = byteOf(v, k);
                length++;
            }
            findParts();
        }

        void wipe() {
            length = 0;
            parts = 0;
        }

        boolean isWord() {
            if (length < 1 || length > MOST_LETTERS) {
                return false;
            }
            for (int k = 0; k < length; k++) {
                if (!isLetter(bytes[k])) {
                    return false;
                }
            }
            return true;
        }

        int broken() {
            int marks = 0;
            for (int k = 0; k < length; k++) {
                if (bytes[k] == '?') {
                    marks++;
                }
            }
            return marks;
        }

        /** A blank stands between two parts, so a full draft has no more of them than the rows hold. */
        private void findParts() {
            parts = 0;
            int ahead = ' ';
            for (int k = 0; k < length; k++) {
                if (bytes[k] != ' ' && ahead == ' ' && parts < MOST_PARTS) {
                    starts[parts] = k;
                    parts++;
                }
                if (bytes[k] != ' ' && parts > 0) {
                    ends[parts - 1] = k + 1;
                }
                ahead = bytes[k];
            }
        }
    }

    /** The listed vocables, each text in a row of its own of eight places, and the order of their sorts. */
    private static final class Vocables {
        final int[] texts = new int[MOST_VOCABLES * MOST_LETTERS];
        final int[] lengths = new int[MOST_VOCABLES];
        final int[] feet = new int[MOST_VOCABLES];
        final int[] sorts = new int[MOST_VOCABLES];
        final int[] next = new int[PLACES_OF_ORDER];
        int size;

        Vocables() {
            Arrays.fill(next, (1 << SORTS) - 1);
        }

        void take(Draft draft, int itsFeet, int itsSort) {
            System.arraycopy(draft.bytes, 0, texts, size * MOST_LETTERS, draft.length);
            lengths[size] = draft.length;
            feet[size] = itsFeet;
            sorts[size] = itsSort;
            size++;
        }

        /** behind: a sort, or BEGINNING. */
        boolean mayCome(int behind, int vocable) {
            return (next[behind] >> sorts[vocable] & 1) == 1;
        }

        boolean fitsPart(int vocable, Draft draft, int part) {
            int start = draft.starts[part];
            int wide = draft.ends[part] - start;
            if (wide != lengths[vocable]) {
                return false;
            }
            for (int k = 0; k < wide; k++) {
                int b = draft.bytes[start + k];
                if (b != '?' && b != texts[vocable * MOST_LETTERS + k]) {
                    return false;
                }
            }
            return true;
        }

        /** The blank between vocables makes a line's sum that of its vocables' own sums. */
        void putSums(int[] sums, Customs customs, int counting, int custom) {
            for (int k = 0; k < size; k++) {
                int from = k * MOST_LETTERS;
                sums[k] = customs.sumOf(counting, custom, texts, from, from + lengths[k]);
            }
        }
    }

    /**
     * Lines are counted by how many ways there are to go on behind a sort with the feet and the sum that are left.
     * What has been counted is kept until the round ends: it holds for one custom, one counting, one list and order.
     */
    private static final class Verses {
        /**
         * With more feet left there are few beginnings of lines, and counting them again costs next to nothing.
         * Up to here there are at most 10 * 10 * 10 * 10 ways, so that a lane holds them.
         */
        private static final int KEPT_FEET = 4;
        private static final int LANE_BITS = 16;
        private static final long LANE_MASK = 0xFFFF;

        final Vocables vocables;
        final Customs customs;
        final int[] sums = new int[MOST_VOCABLES];
        final int[] oneSums = new int[MOST_VOCABLES];
        final int[] otherSums = new int[MOST_VOCABLES];
        final long[] byFeet = new long[(MOST_FEET + 1) * PLACES_OF_ORDER];
        /**
         * For each sort and each sum left, a lane for each number of feet left: 0, or one more than the ways counted.
         * By far the largest row: the lanes share a number, to keep what an object is made of small.
         */
        final long[] kept = new long[SORTS * (MOST_SUM + 1)];
        boolean isRoundOver = true;
        int roundCounting;
        int roundCustom;

        Verses(Vocables itsVocables, Customs itsCustoms) {
            vocables = itsVocables;
            customs = itsCustoms;
        }

        void forget() {
            isRoundOver = true;
        }

        long ofFeet(int feet) {
            for (int behind = 0; behind < PLACES_OF_ORDER; behind++) {
                byFeet[behind] = 1;
            }
            for (int f = 1; f <= feet; f++) {
                for (int behind = 0; behind < PLACES_OF_ORDER; behind++) {
                    byFeet[f * PLACES_OF_ORDER + behind] = stepOfFeet(f, behind);
                }
            }
            return byFeet[feet * PLACES_OF_ORDER + BEGINNING];
        }

        private long stepOfFeet(int feet, int behind) {
            long ways = 0;
            for (int k = 0; k < vocables.size; k++) {
                if (vocables.feet[k] <= feet && vocables.mayCome(behind, k)) {
                    ways += byFeet[(feet - vocables.feet[k]) * PLACES_OF_ORDER + vocables.sorts[k]];
                }
            }
            return ways;
        }

        long ofSum(int feet, int y, int counting, int custom) {
            beginRound(counting, custom);
            return waysOn(BEGINNING, feet, y);
        }

        private void beginRound(int counting, int custom) {
            if (!isRoundOver && counting == roundCounting && custom == roundCustom) {
                return;
            }
            vocables.putSums(sums, customs, counting, custom);
            roundCounting = counting;
            roundCustom = custom;
            isRoundOver = false;
            Arrays.fill(kept, 0);
        }

        /** Each level has fewer feet left, so it goes at most eight deep. */
        private long waysOn(int behind, int feet, int rest) {
            if (feet < 1 || feet > MOST_FEET) {
                return feet == 0 && rest == 0 ? 1 : 0;
            }
            int place = placeKept(behind, feet, rest);
            if (place < 0 || place >= kept.length) {
                return countWaysOn(behind, feet, rest);
            }
            int lane = (feet - 1) * LANE_BITS;
            long known = (kept[place] >>> lane) & LANE_MASK;
            if (known > 0) {
                return known - 1;
            }
            long ways = countWaysOn(behind, feet, rest);
            kept[place] |= (ways + 1) << lane;
            return ways;
        }

        private long countWaysOn(int behind, int feet, int rest) {
            long ways = 0;
            for (int k = 0; k < vocables.size; k++) {
                ways += waysWith(k, behind, feet, rest);
            }
            return ways;
        }

        private long waysWith(int vocable, int behind, int feet, int rest) {
            int feetLeft = feet - vocables.feet[vocable];
            int restLeft = rest - sums[vocable];
            if (feetLeft < 0 || restLeft < 0 || !vocables.mayCome(behind, vocable)) {
                return 0;
            }
            return waysOn(vocables.sorts[vocable], feetLeft, restLeft);
        }

        /** -1: not kept. The beginning is counted once a call, and not worth a row. */
        private static int placeKept(int behind, int feet, int rest) {
            if (behind >= SORTS || feet > KEPT_FEET) {
                return -1;
            }
            return behind * (MOST_SUM + 1) + rest;
        }

        /** Of the line with this number in the round that ofSum() began: there must be one. */
        int vocableAt(int feet, int y, long number, int i) {
            int behind = BEGINNING;
            int feetLeft = feet;
            int rest = y;
            long ahead = number;
            for (int place = 0; place < MOST_FEET && feetLeft > 0; place++) {
                int chosen = 0;
                long ways = waysWith(chosen, behind, feetLeft, rest);
                while (chosen < vocables.size - 1 && ahead >= ways) {
                    ahead -= ways;
                    chosen++;
                    ways = waysWith(chosen, behind, feetLeft, rest);
                }
                if (place == i) {
                    return chosen;
                }
                behind = vocables.sorts[chosen];
                feetLeft -= vocables.feet[chosen];
                rest -= sums[chosen];
            }
            return NONE;
        }

        long ofTwoSums(int feet, int y, int z, int counting, int one, int other) {
            vocables.putSums(oneSums, customs, counting, one);
            vocables.putSums(otherSums, customs, counting, other);
            return doubleWaysOn(BEGINNING, feet, y, z);
        }

        /** Each level has fewer feet left, so it goes at most five deep. */
        private long doubleWaysOn(int behind, int feet, int y, int z) {
            if (feet < 1 || feet > MOST_FEET_OF_DOUBLE || y < 0 || z < 0) {
                return feet == 0 && y == 0 && z == 0 ? 1 : 0;
            }
            long ways = 0;
            for (int k = 0; k < vocables.size; k++) {
                if (vocables.mayCome(behind, k)) {
                    ways += doubleWaysOn(vocables.sorts[k], feet - vocables.feet[k], y - oneSums[k], z - otherSums[k]);
                }
            }
            return ways;
        }
    }

    /** The draft read as a stone: part by part, with what there is behind each sort (or still at the beginning). */
    private static final class Stone {
        private static final int WORD_BITS = 64;
        private static final int WORDS = MOST_SUM / WORD_BITS + 1;

        final Draft draft;
        final Vocables vocables;
        final Customs customs;
        final int[] sums = new int[MOST_VOCABLES];
        final long[] ways = new long[PLACES_OF_ORDER];
        final long[] nextWays = new long[PLACES_OF_ORDER];
        /** For each place of the order the sums reached there, a bit each. */
        final long[] reached = new long[PLACES_OF_ORDER * WORDS];
        final long[] nextReached = new long[PLACES_OF_ORDER * WORDS];
        int found;
        int least;
        int greatest;

        Stone(Draft itsDraft, Vocables itsVocables, Customs itsCustoms) {
            draft = itsDraft;
            vocables = itsVocables;
            customs = itsCustoms;
        }

        int fittingPart(int part) {
            int fitting = 0;
            for (int k = 0; k < vocables.size; k++) {
                if (vocables.fitsPart(k, draft, part)) {
                    fitting++;
                }
            }
            return fitting;
        }

        int howManyReadings() {
            Arrays.fill(ways, 0);
            ways[BEGINNING] = 1;
            for (int part = 0; part < draft.parts; part++) {
                readPart(part);
            }
            long total = 0;
            for (long w : ways) {
                total += w;
            }
            return (int) Math.min(total, MOST_READINGS);
        }

        /** Ways are cut at each part: more than can be told stay more, and never wrap around. */
        private void readPart(int part) {
            Arrays.fill(nextWays, 0);
            for (int k = 0; k < vocables.size; k++) {
                if (vocables.fitsPart(k, draft, part)) {
                    nextWays[vocables.sorts[k]] += waysTo(k);
                }
            }
            for (int place = 0; place < PLACES_OF_ORDER; place++) {
                ways[place] = Math.min(nextWays[place], MOST_READINGS);
            }
        }

        private long waysTo(int vocable) {
            long total = 0;
            for (int behind = 0; behind < PLACES_OF_ORDER; behind++) {
                if (vocables.mayCome(behind, vocable)) {
                    total += ways[behind];
                }
            }
            return total;
        }

        void findYears(int counting, int custom) {
            vocables.putSums(sums, customs, counting, custom);
            Arrays.fill(reached, 0);
            reached[BEGINNING * WORDS] = 1;
            for (int part = 0; part < draft.parts; part++) {
                reachOverPart(part);
            }
            found = 0;
            least = NONE;
            greatest = NONE;
            for (int word = 0; word < WORDS; word++) {
                takeYears(word);
            }
        }

        private void reachOverPart(int part) {
            Arrays.fill(nextReached, 0);
            for (int k = 0; k < vocables.size; k++) {
                if (vocables.fitsPart(k, draft, part)) {
                    reachWith(k);
                }
            }
            System.arraycopy(nextReached, 0, reached, 0, reached.length);
        }

        private void reachWith(int vocable) {
            for (int behind = 0; behind < PLACES_OF_ORDER; behind++) {
                if (vocables.mayCome(behind, vocable)) {
                    addShifted(behind * WORDS, vocables.sorts[vocable] * WORDS, sums[vocable]);
                }
            }
        }

        /** Sums beyond the last word fall away: no sum ever comes down again. */
        private void addShifted(int from, int to, int by) {
            int words = by / WORD_BITS;
            int bits = by % WORD_BITS;
            for (int k = words; k < WORDS; k++) {
                int source = k - words;
                long shifted = reached[from + source] << bits;
                if (bits > 0 && source > 0) {
                    shifted |= reached[from + source - 1] >>> (WORD_BITS - bits);
                }
                nextReached[to + k] |= shifted;
            }
        }

        private void takeYears(int word) {
            long bits = 0;
            for (int sort = 0; sort < SORTS; sort++) {
                bits |= reached[sort * WORDS + word];
            }
            for (int year = word * WORD_BITS; bits != 0 && year <= MOST_SUM; year++) {
                if ((bits & 1) == 1) {
                    found++;
                    least = least == NONE ? year : least;
                    greatest = year;
                }
                bits >>>= 1;
            }
        }
    }
}
