import java.util.Arrays;

/**
 * Data beside a broadcast: words of eight bits and six that check them, heard bit by bit.
 * The document's words stand in capitals here (OFFSET, REST, BURST, SYNC, PART, GROUP, ..).
 */
public final class SideWords {
    public static final int UNKNOWN = -1, BAD = -2, LATE = -3, FULL = -4, NONE = -9;

    private static final int WORD_BITS = 14, WORD_MASK = 16383, CHECK_BITS = 6, CHECK_MASK = 63;
    private static final int OFFSETS = 4, BYTES = 256, GROUP_BITS = 56, MAX_TIMES = 9;
    private static final int MAX_ACTS = 14, SLOTS = 2, MAX_SEEN = 4, MAX_DRAWN = 40;
    private static final int DOING = 100000, MAX_DOINGS = 3, MAX_FLIPS = 4;
    private static final int SHARE_TIMES = 3, SHARE_ORDERS = 24, MAX_CHANCE_TIMES = 2, TENTHS = 10;
    private static final long SEED_FACTOR = 6364136223846793005L, SEED_STEP = 1442695040888963407L;

    /** In how many orders of four WORDS a told set of 0 .. 3 others comes just ahead of a told one. */
    private static final int[] ORDERS_AFTER = {6, 2, 2, 6};

    private final Text text = new Text();
    private final Code code = new Code();
    private final Receiver now = new Receiver();
    private final Acts acts = new Acts();
    private final Receiver[] slots = new Receiver[SLOTS];
    private final boolean[] kept = new boolean[SLOTS];
    /** Rows for what is only asked: one for each WORD that CHANCE spoils, and one behind them. */
    private final Receiver[] trials = new Receiver[MAX_CHANCE_TIMES * OFFSETS + 1];
    private final int[] seenGroups = new int[MAX_SEEN];
    private final int[] seenCounts = new int[MAX_SEEN];
    private final int[] seenValues = new int[MAX_SEEN];
    private int seenSize = 0;
    private long theSeed = 0L;

    public SideWords() {
        for (int i = 0; i < SLOTS; i++) {
            slots[i] = new Receiver();
        }
        for (int i = 0; i < trials.length; i++) {
            trials[i] = new Receiver();
        }
    }

    // ---- the station

    public int write(int letter) {
        if (letter < 0 || letter > 255) {
            return BAD;
        }
        return text.add(letter) ? text.length : FULL;
    }

    public int wipe() {
        int length = text.length;
        text.length = 0;
        return length;
    }

    public int fault() {
        return text.firstFault();
    }

    public int station() {
        if (text.firstFault() != NONE) {
            return LATE;
        }
        code.takeFrom(text);
        now.clear();
        acts.forget();
        for (int i = 0; i < SLOTS; i++) {
            kept[i] = false;
        }
        return code.g;
    }

    public int about(int what) {
        switch (what) {
            case 0: return code.g;
            case 1: return code.longest;
            case 2: return code.hold;
            case 13: return acts.count;
            case 14: return seenSize;
            case 15: return text.length;
            case 16: return code.burstCount;
            case 17: return code.sureCount;
            default: return now.tell(what);
        }
    }

    public int offset(int k) {
        return isOffset(k) ? code.offsets[k] : UNKNOWN;
    }

    public int told(int what) {
        switch (what) {
            case 0: return now.shown.program;
            case 1: return now.shown.programCandidate;
            case 2: return now.shown.clock;
            case 3: return now.shown.flag;
            case 4: return now.shown.listed;
            case 5: return presentBits(now.shown.names);
            case 6: return presentBits(now.parts);
            default: return BAD;
        }
    }

    public int part(int k) {
        return isOffset(k) ? now.parts[k] : UNKNOWN;
    }

    public int name(int place, boolean candidate) {
        if (!isPlace(place)) {
            return UNKNOWN;
        }
        return candidate ? now.shown.candidates[place] : now.shown.names[place];
    }

    public int list(int i, boolean times) {
        int at = now.shown.indexInOrder(i);
        if (at < 0) {
            return NONE;
        }
        return times ? now.shown.heardOf[at] : now.shown.stations[at];
    }

    // ---- words

    public int word(int k, int d) {
        if (!isOffset(k)) {
            return UNKNOWN;
        }
        return isByte(d) ? code.wordOf(k, d) : BAD;
    }

    public int rest(int k, int w) {
        if (!isOffset(k)) {
            return UNKNOWN;
        }
        return isWord(w) ? code.restFor(k, w) : BAD;
    }

    public int mended(int k, int w) {
        if (!isOffset(k)) {
            return UNKNOWN;
        }
        if (!isWord(w)) {
            return BAD;
        }
        int block = code.blockOf(w, code.restFor(k, w));
        return block == NONE ? NONE : block >> CHECK_BITS;
    }

    public int distance() {
        int least = WORD_BITS;
        for (int d = 1; d < BYTES; d++) {
            // Two WORDS of one OFFSET differ by a WORD without any: so the lightest of these tells it.
            least = Math.min(least, Integer.bitCount(code.plainWord(d)));
        }
        return least;
    }

    public int flips(int n, int what) {
        if (n < 0 || n > MAX_FLIPS || what < 0 || what > 3) {
            return BAD;
        }
        return setsWithFate(code, what, n, 0, 0);
    }

    public int slips(int k, int d, int e) {
        if (!isOffset(k)) {
            return UNKNOWN;
        }
        if (!isByte(d) || !isByte(e)) {
            return BAD;
        }
        int both = (code.wordOf(k, d) << WORD_BITS) | code.wordOf(nextOffset(k), e);
        int places = 0;
        for (int i = 1; i < WORD_BITS; i++) {
            if (code.hitOf((both >> (WORD_BITS - i)) & WORD_MASK) != NONE) {
                places |= 1 << i;
            }
        }
        return places;
    }

    // ---- acts

    public int bits(int n, int v) {
        if (n < 1 || n > WORD_BITS || v < 0 || (v >> n) != 0) {
            return BAD;
        }
        acts.remember(now);
        now.hearBits(code, v, n);
        return now.syncBit();
    }

    public int hear(int k, int d, int mask) {
        if (!isOffset(k)) {
            return UNKNOWN;
        }
        if (!isByte(d) || !isWord(mask)) {
            return BAD;
        }
        acts.remember(now);
        now.hearBits(code, code.wordOf(k, d) ^ mask, WORD_BITS);
        return now.syncBit();
    }

    public int group(int group, int n) {
        if (n < 1 || n > MAX_TIMES) {
            return BAD;
        }
        acts.remember(now);
        int before = now.good + now.mended;
        hearGroups(now, group, n);
        return now.good + now.mended - before;
    }

    public int reset() {
        int was = now.syncBit();
        acts.remember(now);
        now.startOver();
        return was;
    }

    public int undo() {
        return acts.takeBack(now) ? acts.count : LATE;
    }

    // ---- asked

    public int ahead(int group, int n, int what) {
        if (n < 0 || n > MAX_TIMES || what < 3 || what > 12) {
            return BAD;
        }
        Receiver trial = freshTrial();
        hearGroups(trial, group, n);
        return trial.tell(what);
    }

    public int needs(int group) {
        Receiver trial = freshTrial();
        long row = code.groupRow(group);
        for (int n = 0; n <= MAX_TIMES; n++) {
            if (trial.sync) {
                return n;
            }
            if (n < MAX_TIMES) {
                trial.hearBits(code, row, GROUP_BITS);
            }
        }
        return NONE;
    }

    public int judge(int n, long row) {
        if (n < 1 || n > MAX_DOINGS || row < 0 || withoutLast(row, n) != 0) {
            return BAD;
        }
        Receiver trial = freshTrial();
        for (int i = 0; i < n; i++) {
            int doing = (int) (withoutLast(row, n - 1 - i) % DOING);
            if (!isSo(trial, doing)) {
                return i;
            }
        }
        return NONE;
    }

    // ---- seen

    public int see(int group, int what, int v) {
        if (what < 0 || what > 2 || v < 0 || v > 9) {
            return BAD;
        }
        if (seenSize >= MAX_SEEN) {
            return FULL;
        }
        seenGroups[seenSize] = group;
        seenCounts[seenSize] = what;
        seenValues[seenSize] = v;
        seenSize++;
        return seenSize;
    }

    public int unsee() {
        int were = seenSize;
        seenSize = 0;
        return were;
    }

    public long which() {
        long places = (1L << GROUP_BITS) - 1;
        for (int i = 0; i < seenSize; i++) {
            places = placesFitting(i, places);
        }
        return places;
    }

    // ---- shares, chances

    public int share(int group, int word, boolean upper) {
        if (!isOffset(word)) {
            return UNKNOWN;
        }
        int sum = 0;
        for (int others = 0; others < (1 << OFFSETS); others++) {
            if (((others >> word) & 1) == 0) {
                int more = goodBehind(group, others | (1 << word)) - goodBehind(group, others);
                sum += ORDERS_AFTER[Integer.bitCount(others) & 3] * more;
            }
        }
        return fraction(sum, SHARE_ORDERS, upper);
    }

    public int chance(int group, int n, int x, boolean upper) {
        if (n < 1 || n > MAX_CHANCE_TIMES || x < 0 || x > TENTHS) {
            return BAD;
        }
        int words = n * OFFSETS;
        int all = 1;
        for (int i = 0; i < words; i++) {
            all *= TENTHS;
        }
        trials[0].copyFrom(now);
        return fraction(waysToSync(code, trials, code.groupRow(group), x, words, 0), all, upper);
    }

    public long seed(long v) {
        long was = theSeed;
        theSeed = v;
        return was;
    }

    public int drawn(int m) {
        if (m < 1 || m > MAX_DRAWN) {
            return BAD;
        }
        Receiver trial = freshTrial();
        int often = 0;
        for (int i = 0; i < m; i++) {
            theSeed = theSeed * SEED_FACTOR + SEED_STEP;
            trial.hearBits(code, drawnWord((int) (theSeed >>> 33), i & 3), WORD_BITS);
            often += trial.syncBit();
        }
        return often;
    }

    // ---- slots

    public int keep(int slot) {
        if (!isSlot(slot)) {
            return UNKNOWN;
        }
        slots[slot].copyFrom(now);
        kept[slot] = true;
        return now.heard;
    }

    public int again(int slot) {
        if (!isSlot(slot)) {
            return UNKNOWN;
        }
        if (!kept[slot]) {
            return LATE;
        }
        now.copyFrom(slots[slot]);
        acts.forget();
        return now.heard;
    }

    // ---- what the calls share

    private static boolean isOffset(int k) {
        return k >= 0 && k < OFFSETS;
    }

    private static boolean isPlace(int place) {
        return place >= 0 && place < Shown.PLACES;
    }

    private static boolean isSlot(int slot) {
        return slot >= 0 && slot < SLOTS;
    }

    private static boolean isByte(int d) {
        return d >= 0 && d < BYTES;
    }

    private static boolean isWord(int w) {
        return w >= 0 && w <= WORD_MASK;
    }

    private static int nextOffset(int k) {
        return (k + 1) & 3;
    }

    private static int presentBits(int[] row) {
        int set = 0;
        for (int i = 0; i < row.length; i++) {
            if (row[i] != NONE) {
                set |= 1 << i;
            }
        }
        return set;
    }

    private Receiver freshTrial() {
        trials[0].copyFrom(now);
        return trials[0];
    }

    private void hearGroups(Receiver receiver, int group, int n) {
        long row = code.groupRow(group);
        for (int i = 0; i < n; i++) {
            receiver.hearBits(code, row, GROUP_BITS);
        }
    }

    /** row without its last n doings. */
    private static long withoutLast(long row, int n) {
        long left = row;
        for (int i = 0; i < n; i++) {
            left /= DOING;
        }
        return left;
    }

    /** Whether a doing can be (it is done on the trial then), or what it asks is so there. */
    private boolean isSo(Receiver trial, int doing) {
        int kind = doing / 10000;
        int second = doing / 1000 % 10;
        int lastThree = doing % 1000;
        switch (kind) {
            case 1: return canHear(trial, second, lastThree);
            case 2: return canReset(trial, doing);
            case 3: return lastThree == 0 && second == trial.syncBit();
            case 4: return isPlace(second) && lastThree == (trial.shown.names[second] == NONE ? 0 : 100);
            case 5: return isOffset(second) && trial.parts[second] == lastThree;
            case 6: return second == 0 && trial.shown.program == lastThree;
            default: return false;
        }
    }

    private boolean canHear(Receiver trial, int k, int d) {
        if (!isOffset(k) || !isByte(d)) {
            return false;
        }
        trial.hearBits(code, code.wordOf(k, d), WORD_BITS);
        return true;
    }

    private static boolean canReset(Receiver trial, int doing) {
        if (doing != 20000) {
            return false;
        }
        trial.startOver();
        return true;
    }

    /** Those of the places at which a turned bit would bring what was SEEN as the i-th. */
    private long placesFitting(int i, long places) {
        long row = code.groupRow(seenGroups[i]);
        int due = now.countOf(seenCounts[i]) + seenValues[i];
        Receiver ahead = trials[0];
        Receiver turned = trials[1];
        ahead.copyFrom(now);
        long fitting = 0L;
        for (int place = 0; place < GROUP_BITS; place++) {
            int behind = GROUP_BITS - 1 - place;
            if (((places >> place) & 1L) != 0L) {
                turned.copyFrom(ahead);
                turned.hearBits(code, row ^ (1L << behind), behind + 1);
                if (turned.countOf(seenCounts[i]) == due) {
                    fitting |= 1L << place;
                }
            }
            ahead.hearBits(code, row >> behind, 1);
        }
        return fitting;
    }

    /** GOOD behind a GROUP that is HEARD as often as SHARE asks, the WORDS that have not come turned. */
    private int goodBehind(int group, int come) {
        long row = code.groupRow(group);
        for (int k = 0; k < OFFSETS; k++) {
            if (((come >> k) & 1) == 0) {
                row ^= (long) WORD_MASK << (WORD_BITS * (OFFSETS - 1 - k));
            }
        }
        Receiver trial = freshTrial();
        for (int i = 0; i < SHARE_TIMES; i++) {
            trial.hearBits(code, row, GROUP_BITS);
        }
        return trial.good;
    }

    /** How many sets of n bits from a place on, with those of a set below it, have a told fate. */
    private static int setsWithFate(Code code, int what, int n, int from, int set) {
        if (n <= 0) {
            return code.fateOf(set) == what ? 1 : 0;
        }
        int count = 0;
        for (int bit = from; bit < WORD_BITS; bit++) {
            count += setsWithFate(code, what, n - 1, bit + 1, set | (1 << bit));
        }
        return count;
    }

    /** Of ten to the power of the WORDS to come, how many ways bring SYNC, from rows[depth] on. */
    private static int waysToSync(Code code, Receiver[] rows, long groupRow, int x, int words, int depth) {
        if (depth >= words || depth + 1 >= rows.length) {
            return rows[depth].syncBit();
        }
        long word = groupRow >> (WORD_BITS * (OFFSETS - 1 - (depth & 3)));
        Receiver next = rows[depth + 1];
        int ways = 0;
        if (x < TENTHS) {
            next.copyFrom(rows[depth]);
            next.hearBits(code, word, WORD_BITS);
            ways += (TENTHS - x) * waysToSync(code, rows, groupRow, x, words, depth + 1);
        }
        if (x > 0) {
            next.copyFrom(rows[depth]);
            next.hearBits(code, word ^ WORD_MASK, WORD_BITS);
            ways += x * waysToSync(code, rows, groupRow, x, words, depth + 1);
        }
        return ways;
    }

    private int drawnWord(int v, int k) {
        int word = code.wordOf(k, v & 255);
        return (v >> 8) % 4 == 0 ? word ^ (1 << ((v >> 12) % WORD_BITS)) : word;
    }

    private static int fraction(int above, int below, boolean upper) {
        int divisor = greatestDivisor(Math.abs(above), below);
        if (divisor < 1) {
            return NONE;
        }
        return upper ? above / divisor : below / divisor;
    }

    private static int greatestDivisor(int a, int b) {
        int high = a;
        int low = b;
        // Below 2^31 Euclid's way takes fewer than 64 steps.
        for (int step = 0; step < 64 && low != 0; step++) {
            int left = high % low;
            high = low;
            low = left;
        }
        return high;
    }

    /** THE TEXT, and whether it tells a STATION. */
    private static final class Text {
        static final int MAX_LETTERS = 40, STATION_LETTERS = 13;
        static final int AT_G = 1, AT_OFFSETS = 3, AT_LONG = 11, AT_HOLD = 12;

        final int[] letters = new int[MAX_LETTERS];
        int length = 0;

        boolean add(int letter) {
            if (length >= MAX_LETTERS) {
                return false;
            }
            letters[length] = letter;
            length++;
            return true;
        }

        int firstFault() {
            int end = Math.min(length, STATION_LETTERS);
            for (int i = 0; i < end; i++) {
                if (!fits(i)) {
                    return i;
                }
            }
            return length == STATION_LETTERS ? NONE : end;
        }

        /** Whether a letter can stand at its place, all those ahead of it being right. */
        private boolean fits(int i) {
            if (i == 0) {
                return letters[0] == 'S';
            }
            int figure = figureAt(i);
            if (figure < 0 || figure > 9) {
                return false;
            }
            if (i == AT_LONG) {
                return figure <= 3;
            }
            if (i == AT_HOLD) {
                return figure >= 1;
            }
            // Ten numbers begin with 0 .. 5 and four with 6: three OFFSETS ahead never take them all.
            return (i & 1) == 1 ? figure <= 6 : endsNumber(i);
        }

        private boolean endsNumber(int i) {
            int number = numberAt(i - 1);
            if (number > CHECK_MASK) {
                return false;
            }
            if (i < AT_OFFSETS) {
                return (number & 1) == 1;
            }
            for (int other = AT_OFFSETS; other < i - 1; other += 2) {
                if (numberAt(other) == number) {
                    return false;
                }
            }
            return true;
        }

        int figureAt(int i) {
            return letters[i] - '0';
        }

        int numberAt(int i) {
            return 10 * figureAt(i) + figureAt(i + 1);
        }
    }

    /** THE STATION: G, OFFSETS, LONG and HOLD, and the rows that follow from them. */
    private static final class Code {
        static final int IS_GOOD = 0, IS_MENDED = 1, IS_MENDED_WRONG = 2, IS_SPOILT = 3;

        final int[] offsets = new int[OFFSETS];
        /** REST of 64 times d, without an OFFSET. */
        final int[] dataRests = new int[BYTES];
        /** The OFFSET that a rest by G is; NONE. */
        final int[] offsetOfRest = new int[CHECK_MASK + 1];
        /** The SURE BURST that has a REST; 0: there is none. */
        final int[] sureBursts = new int[CHECK_MASK + 1];
        int g = 1;
        int longest = 0;
        int hold = 1;
        int burstCount = 0;
        int sureCount = 0;

        Code() {
            for (int k = 0; k < OFFSETS; k++) {
                offsets[k] = k;
            }
            fillRows();
        }

        void takeFrom(Text text) {
            g = text.numberAt(Text.AT_G);
            for (int k = 0; k < OFFSETS; k++) {
                offsets[k] = text.numberAt(Text.AT_OFFSETS + 2 * k) & CHECK_MASK;
            }
            longest = text.figureAt(Text.AT_LONG);
            hold = text.figureAt(Text.AT_HOLD);
            fillRows();
        }

        private void fillRows() {
            dataRests[0] = 0;
            for (int d = 1; d < BYTES; d++) {
                int twice = dataRests[d >> 1] << 1;
                int shortened = twice > CHECK_MASK ? (twice ^ g) & CHECK_MASK : twice;
                // The rest of 64, that is of x^6, is G.
                dataRests[d] = (d & 1) == 1 ? shortened ^ g : shortened;
            }
            Arrays.fill(offsetOfRest, NONE);
            for (int k = 0; k < OFFSETS; k++) {
                offsetOfRest[offsets[k]] = k;
            }
            findBursts();
        }

        private void findBursts() {
            Arrays.fill(sureBursts, 0);
            burstCount = 0;
            // A BURST is an odd shape below 2^LONG, moved up.
            for (int shape = 1; shape < (1 << longest); shape += 2) {
                for (int up = 0; up < WORD_BITS; up++) {
                    if ((shape << up) <= WORD_MASK) {
                        noteBurst(shape << up);
                    }
                }
            }
            sureCount = 0;
            for (int r = 0; r <= CHECK_MASK; r++) {
                sureBursts[r] = Math.max(sureBursts[r], 0);
                sureCount += sureBursts[r] == 0 ? 0 : 1;
            }
        }

        /** While BURSTS are found, -1 stands for several of one REST, and for the REST 0. */
        private void noteBurst(int burst) {
            int r = restOf(burst);
            sureBursts[r] = r == 0 || sureBursts[r] != 0 ? -1 : burst;
            burstCount++;
        }

        /** The rest of a WORD by G. */
        private int restOf(int w) {
            return dataRests[(w >> CHECK_BITS) & 255] ^ (w & CHECK_MASK);
        }

        int restFor(int k, int w) {
            // An OFFSET is its own rest.
            return restOf(w) ^ offsets[k];
        }

        int plainWord(int d) {
            return (d << CHECK_BITS) | dataRests[d];
        }

        int wordOf(int k, int d) {
            return plainWord(d) ^ offsets[k];
        }

        /** The OFFSET for which REST of w is 0; NONE. */
        int hitOf(int w) {
            return offsetOfRest[restOf(w)];
        }

        /** The WORD that a BLOCK w with REST r (0 .. 63) is taken for; NONE: it is SPOILT. */
        int blockOf(int w, int r) {
            if (r == 0) {
                return w;
            }
            return sureBursts[r] == 0 ? NONE : w ^ sureBursts[r];
        }

        /** What becomes of any WORD in which a set of bits was turned. */
        int fateOf(int set) {
            int r = restOf(set);
            if (r == 0) {
                return IS_GOOD;
            }
            if (sureBursts[r] == 0) {
                return IS_SPOILT;
            }
            return sureBursts[r] == set ? IS_MENDED : IS_MENDED_WRONG;
        }

        /** The 56 bits of a GROUP, the first one HEARD the highest. */
        long groupRow(int group) {
            long row = 0L;
            for (int k = 0; k < OFFSETS; k++) {
                int d = (group >> (8 * (OFFSETS - 1 - k))) & 255;
                row = (row << WORD_BITS) | wordOf(k, d);
            }
            return row;
        }
    }

    /** All that came of what was HEARD. */
    private static final class Receiver {
        static final int MAX_HIT_WORDS = 4;

        final Shown shown = new Shown();
        final int[] parts = new int[OFFSETS];
        int window;
        int heard;
        int since;
        boolean sync;
        int due;
        int phase;
        int bads;
        int good;
        int mended;
        int spoilt;
        int losses;
        int lastHitAt;
        int lastHitOffset;

        Receiver() {
            clear();
        }

        void clear() {
            window = 0;
            heard = 0;
            since = 0;
            sync = false;
            due = 0;
            phase = 0;
            bads = 0;
            good = 0;
            mended = 0;
            spoilt = 0;
            losses = 0;
            lastHitAt = 0;
            lastHitOffset = NONE;
            Arrays.fill(parts, NONE);
            shown.clear();
        }

        void copyFrom(Receiver other) {
            window = other.window;
            heard = other.heard;
            since = other.since;
            sync = other.sync;
            due = other.due;
            phase = other.phase;
            bads = other.bads;
            good = other.good;
            mended = other.mended;
            spoilt = other.spoilt;
            losses = other.losses;
            lastHitAt = other.lastHitAt;
            lastHitOffset = other.lastHitOffset;
            System.arraycopy(other.parts, 0, parts, 0, OFFSETS);
            shown.copyFrom(other.shown);
        }

        int syncBit() {
            return sync ? 1 : 0;
        }

        /** As about() numbers them. */
        int tell(int what) {
            switch (what) {
                case 3: return heard;
                case 4: return window;
                case 5: return syncBit();
                case 6: return sync ? due : NONE;
                case 7: return sync ? phase : NONE;
                case 8: return sync ? bads : NONE;
                case 9: return good;
                case 10: return mended;
                case 11: return spoilt;
                case 12: return losses;
                default: return BAD;
            }
        }

        /** As see() numbers them. */
        int countOf(int what) {
            switch (what) {
                case 0: return good;
                case 1: return mended;
                default: return spoilt;
            }
        }

        /** The lowest n bits of a row, the highest of these first. */
        void hearBits(Code code, long row, int n) {
            for (int i = n - 1; i >= 0; i--) {
                window = ((window << 1) | ((int) (row >> i) & 1)) & WORD_MASK;
                heard++;
                since++;
                boolean groupEnds = sync ? goOn(code) : seekSync(code);
                if (groupEnds) {
                    shown.takeGroup(parts);
                }
            }
        }

        /** A bit without SYNC: whether a GROUP is to be looked at. */
        private boolean seekSync(Code code) {
            int k = since >= WORD_BITS ? code.hitOf(window) : NONE;
            if (k == NONE) {
                return false;
            }
            if (!fitsLastHit(k)) {
                lastHitAt = heard;
                lastHitOffset = k;
                return false;
            }
            findSync(k);
            return k == OFFSETS - 1;
        }

        private boolean fitsLastHit(int k) {
            int apart = heard - lastHitAt;
            if (lastHitOffset == NONE || apart % WORD_BITS != 0) {
                return false;
            }
            int words = apart / WORD_BITS;
            return words >= 1 && words <= MAX_HIT_WORDS && ((lastHitOffset + words) & 3) == k;
        }

        private void findSync(int k) {
            sync = true;
            due = nextOffset(k);
            phase = 0;
            bads = 0;
            good++;
            Arrays.fill(parts, NONE);
            parts[k] = window >> CHECK_BITS;
        }

        /** A bit with SYNC: whether a GROUP is to be looked at. */
        private boolean goOn(Code code) {
            phase++;
            if (phase < WORD_BITS) {
                return false;
            }
            phase = 0;
            takeBlock(code);
            if (bads >= code.hold) {
                lose();
                return false;
            }
            due = nextOffset(due);
            return due == 0;
        }

        private void takeBlock(Code code) {
            if (due == 0) {
                Arrays.fill(parts, NONE);
            }
            int block = code.blockOf(window, code.restFor(due, window));
            parts[due] = block == NONE ? NONE : block >> CHECK_BITS;
            countBlock(block);
        }

        private void countBlock(int block) {
            if (block == NONE) {
                spoilt++;
                bads++;
            } else if (block == window) {
                good++;
                bads = 0;
            } else {
                mended++;
            }
        }

        private void lose() {
            sync = false;
            losses++;
            bads = 0;
            lastHitOffset = NONE;
            since = 0;
            Arrays.fill(parts, NONE);
        }

        /** RESET. */
        void startOver() {
            if (sync) {
                lose();
            }
            lastHitOffset = NONE;
            since = 0;
        }
    }

    /** What GROUPS told: THE PROGRAM, NAME, THE CLOCK, THE LIST, FLAG, and their CANDIDATES. */
    private static final class Shown {
        static final int PLACES = 4, MAX_LISTED = 8, LAST_STATION = 204, MOST_TIMES = 99;

        final int[] names = new int[PLACES];
        final int[] candidates = new int[PLACES];
        final int[] stations = new int[MAX_LISTED];
        final int[] heardOf = new int[MAX_LISTED];
        int listed;
        int program;
        int programCandidate;
        int clock;
        int flag;

        void clear() {
            Arrays.fill(stations, 0);
            Arrays.fill(heardOf, 0);
            listed = 0;
            program = NONE;
            programCandidate = NONE;
            clock = NONE;
            flag = 0;
            clearNames();
        }

        private void clearNames() {
            Arrays.fill(names, NONE);
            Arrays.fill(candidates, NONE);
        }

        void copyFrom(Shown other) {
            System.arraycopy(other.names, 0, names, 0, PLACES);
            System.arraycopy(other.candidates, 0, candidates, 0, PLACES);
            System.arraycopy(other.stations, 0, stations, 0, MAX_LISTED);
            System.arraycopy(other.heardOf, 0, heardOf, 0, MAX_LISTED);
            listed = other.listed;
            program = other.program;
            programCandidate = other.programCandidate;
            clock = other.clock;
            flag = other.flag;
        }

        /** A GROUP is looked at; a PART that is not there is NONE. */
        void takeGroup(int[] parts) {
            takeProgram(parts[0]);
            if (parts[1] == NONE) {
                return;
            }
            int low = parts[1] & 63;
            switch (parts[1] >> 6) {
                case 0: takePair(low & 3, parts[2], parts[3]); break;
                case 1: takeClock(parts[2], parts[3]); break;
                case 2: takeStation(parts[2]); takeStation(parts[3]); break;
                default: takeFlag(low & 1); break;
            }
        }

        private void takeProgram(int a) {
            if (a == NONE) {
                return;
            }
            if (a == programCandidate) {
                program = a;
            }
            programCandidate = a;
        }

        private void takePair(int place, int c, int d) {
            if (c == NONE || d == NONE) {
                return;
            }
            int pair = 256 * c + d;
            if (pair == candidates[place]) {
                names[place] = pair;
            }
            candidates[place] = pair;
        }

        private void takeClock(int c, int d) {
            if (c >= 0 && c <= 23 && d >= 0 && d <= 59) {
                clock = 60 * c + d;
            }
        }

        private void takeStation(int c) {
            if (c < 1 || c > LAST_STATION) {
                return;
            }
            for (int i = 0; i < listed; i++) {
                if (stations[i] == c) {
                    heardOf[i] = Math.min(heardOf[i] + 1, MOST_TIMES);
                    return;
                }
            }
            if (listed < MAX_LISTED) {
                stations[listed] = c;
                heardOf[listed] = 1;
                listed++;
            }
        }

        private void takeFlag(int f) {
            if (f != flag) {
                clearNames();
            }
            flag = f;
        }

        /** Where the i-th of THE LIST in ORDER stands in the rows; -1: there is none such. */
        int indexInOrder(int i) {
            for (int at = 0; at < listed; at++) {
                int before = 0;
                for (int other = 0; other < listed; other++) {
                    before += comesBefore(other, at) ? 1 : 0;
                }
                if (before == i) {
                    return at;
                }
            }
            return -1;
        }

        private boolean comesBefore(int a, int b) {
            if (heardOf[a] != heardOf[b]) {
                return heardOf[a] > heardOf[b];
            }
            return stations[a] < stations[b];
        }
    }

    /** ACTS: how all was ahead of each of the last ones, in rows that are used again by turns. */
    private static final class Acts {
        final Receiver[] befores = new Receiver[MAX_ACTS];
        int next = 0;
        int count = 0;

        Acts() {
            for (int i = 0; i < MAX_ACTS; i++) {
                befores[i] = new Receiver();
            }
        }

        void remember(Receiver receiver) {
            befores[next].copyFrom(receiver);
            next = (next + 1) % MAX_ACTS;
            count = Math.min(count + 1, MAX_ACTS);
        }

        boolean takeBack(Receiver receiver) {
            if (count == 0) {
                return false;
            }
            next = (next + MAX_ACTS - 1) % MAX_ACTS;
            count--;
            receiver.copyFrom(befores[next]);
            return true;
        }

        void forget() {
            count = 0;
        }
    }
}
