import java.util.ArrayList;
import java.util.List;

/**
 * Objects and rows of bits to test with. Mostly for the station S0310203040LH (x^6 + x + 1; OFFSETS 10, 20, 30, 40):
 * there GROUP A has no false HITS between its WORDS, so it brings SYNC at once, by its second WORD.
 */
abstract class Made {
    static final int NONE = -9, UNKNOWN = -1, BAD = -2, LATE = -3, FULL = -4;
    static final int[] FAR = {Integer.MIN_VALUE, -1, Integer.MAX_VALUE};
    /** For sentences that stand ahead of the promises. */
    static final int HEAD = Edges.HEAD;
    static final long ALL_PLACES = (1L << 56) - 1;
    /** 128; 3 (KIND 0, PLACE 3); 129, 133. */
    static final int A = 0x80038185;
    static final int PAIR = 256 * 129 + 133;
    static final int G = 3;
    /** Two bits that no single one has the REST of there: LONG 0 and 1 do not mend them. */
    static final int SPOIL = 0b10001;

    /** A station by which false HITS come often. */
    static final String BUSY = "S270317294221";

    static final Due due = new Due();

    static SideWords told(String station) {
        SideWords x = new SideWords();
        spell(x, station);
        x.station();
        return x;
    }

    static void spell(SideWords x, String text) {
        for (char c : text.toCharArray()) {
            x.write(c);
        }
    }

    /** LONG and HOLD as told; GROUP A was HEARD n times. */
    static SideWords heardA(String longAndHold, int n) {
        SideWords x = told("S0310203040" + longAndHold);
        if (n > 0) {
            x.group(A, n);
        }
        return x;
    }

    /** A WORD and some bits were HEARD, others for each i. */
    static SideWords behindSome(String station, int i) {
        SideWords x = told(station);
        x.hear(i & 3, i * 37 & 255, 0);
        x.bits(1 + i % 13, i * 5 & (1 << 1 + i % 13) - 1);
        return x;
    }

    static int faultOf(String text) {
        SideWords x = new SideWords();
        spell(x, text);
        return x.fault();
    }

    static String twoFigures(int v) {
        return "" + v / 10 + v % 10;
    }

    static int groupOf(int a, int b, int c, int d) {
        return a << 24 | b << 16 | c << 8 | d;
    }

    /** The k-th byte of a GROUP. */
    static int byteOf(int group, int k) {
        return group >>> (24 - 8 * k) & 255;
    }

    static int gcd(int a, int b) {
        return b == 0 ? Math.abs(a) : gcd(b, a % b);
    }

    // ---- by hand

    /** The rest of 14 bits, by long division. */
    static int divided(int w, int g) {
        int left = w;
        for (int bit = 13; bit >= 6; bit--) {
            if ((left >> bit & 1) == 1) {
                left ^= (64 | g) << (bit - 6);
            }
        }
        return left;
    }

    static int wordByHand(int k, int d) {
        return 64 * d | divided(64 * d, G) ^ (10 * k + 10);
    }

    /** The OFFSET for which 14 bits have REST 0; NONE. */
    static int hitByHand(int w) {
        int rest = divided(w, G);
        return rest % 10 == 0 && rest >= 10 && rest <= 40 ? rest / 10 - 1 : NONE;
    }

    static String binary(int w) {
        return Integer.toBinaryString(1 << 14 | w).substring(1);
    }

    /** All BURSTS of a LONG. */
    static List<Integer> burstsByHand(int longest) {
        List<Integer> bursts = new ArrayList<>();
        for (int set = 1; set <= 16383; set++) {
            int highest = 31 - Integer.numberOfLeadingZeros(set);
            if (highest - Integer.numberOfTrailingZeros(set) < longest) {
                bursts.add(set);
            }
        }
        return bursts;
    }

    /**
     * WORDS for the OFFSETS ks, the i-th with befores[i] bits ahead of it, so that no HITS but these WORDS come by them
     * from a new station on.
     */
    static String quietRow(int[] ks, int[] befores) {
        return quietRow(ks, befores, 7);
    }

    private static String quietRow(int[] ks, int[] befores, long start) {
        long x = start;
        for (int tries = 0; tries < 200000; tries++) {
            StringBuilder row = new StringBuilder();
            List<Integer> wanted = new ArrayList<>();
            for (int i = 0; i < ks.length; i++) {
                for (int bit = 0; bit < befores[i]; bit++) {
                    x = x * 6364136223846793005L + 1442695040888963407L;
                    row.append(x >>> 63);
                }
                x = x * 6364136223846793005L + 1442695040888963407L;
                row.append(binary(wordByHand(ks[i], (int) (x >>> 56))));
                wanted.add(row.length());
            }
            if (hitPlaces(row.toString()).equals(wanted)) {
                return row.toString();
            }
        }
        due.holds("there is a quiet row", false);
        return "";
    }

    /**
     * WORDS for OFFSETS 0 and 1 without other HITS, the first bit being 0: behind a 0 the first WORD is in THE WINDOW
     * when 13 of its bits have come, so that these rows tell whether a HIT needs 14.
     */
    static List<String> rowsFromZero() {
        List<String> rows = new ArrayList<>();
        for (long start = 0; rows.size() < 20 && start < 1000; start++) {
            String row = quietRow(new int[] {0, 1}, new int[] {0, 0}, start);
            if (row.startsWith("0")) {
                rows.add(row);
            }
        }
        due.is("rows from 0", rows.size(), 20);
        return rows;
    }

    /** HEARD at each HIT of a row. */
    static List<Integer> hitPlaces(String row) {
        List<Integer> places = new ArrayList<>();
        for (int end = 14; end <= row.length(); end++) {
            if (hitByHand(Integer.parseInt(row.substring(end - 14, end), 2)) != NONE) {
                places.add(end);
            }
        }
        return places;
    }

    /** The row's bits are HEARD, 14 at a time: the last answer. */
    static int hearRow(SideWords x, String row) {
        int answer = 0;
        for (int at = 0; at < row.length(); at += 14) {
            String some = row.substring(at, Math.min(at + 14, row.length()));
            answer = x.bits(some.length(), Integer.parseInt(some, 2));
        }
        return answer;
    }

    /** The DATA of a row's last 14 bits. */
    static int lastData(String row) {
        return Integer.parseInt(row.substring(row.length() - 14, row.length() - 6), 2);
    }

    // ---- all that can be asked

    /** All that calls tell that change nothing, as one text. */
    static String look(SideWords x) {
        StringBuilder all = new StringBuilder();
        for (int what = 0; what <= 17; what++) {
            all.append(x.about(what)).append(' ');
        }
        for (int what = 0; what <= 6; what++) {
            all.append(x.told(what)).append(' ');
        }
        for (int k = 0; k < 4; k++) {
            all.append(x.offset(k)).append(' ').append(x.part(k)).append(' ');
            all.append(x.name(k, false)).append(' ').append(x.name(k, true)).append(' ');
        }
        for (int i = 0; i < 8; i++) {
            all.append(x.list(i, false)).append(' ').append(x.list(i, true)).append(' ');
        }
        long seed = x.seed(0);
        x.seed(seed);
        return all.append(x.fault()).append(' ').append(seed).append(' ').append(x.which()).toString();
    }

    /** What a look tells without THE TEXT, SEEN and THE SEED. */
    static String lookAtHeard(SideWords x) {
        StringBuilder all = new StringBuilder();
        for (int what = 3; what <= 12; what++) {
            all.append(x.about(what)).append(' ');
        }
        for (int what = 0; what <= 6; what++) {
            all.append(x.told(what)).append(' ');
        }
        for (int k = 0; k < 4; k++) {
            all.append(x.part(k)).append(' ').append(x.name(k, false)).append(' ').append(x.name(k, true)).append(' ');
        }
        for (int i = 0; i < 8; i++) {
            all.append(x.list(i, false)).append(' ').append(x.list(i, true)).append(' ');
        }
        return all.toString();
    }

    static void same(String what, String got, String want) {
        due.holds(what + ": " + got + " as " + want, got.equals(want));
    }
}
