import java.math.BigInteger;
import java.util.ArrayList;
import java.util.Arrays;
import java.util.Collections;
import java.util.List;
import java.util.Map;
import java.util.TreeMap;

/**
 * What the document says, by the plainest means and without a thought for time: bits are texts of 0 and 1, rests
 * come of long division, sets and orders are gone through one by one. Only held against SideWords, never shipped.
 */
final class PlainModel {
    static final int UNKNOWN = -1, BAD = -2, LATE = -3, FULL = -4, NONE = -9;

    /** All that came of what was HEARD. */
    private static final class State {
        String window = "00000000000000";
        int heard = 0;
        int since = 0;
        boolean sync = false;
        int due = 0;
        int phase = 0;
        int bads = 0;
        int[] counts = new int[4];
        int[] lastHit = null;
        Map<Integer, Integer> parts = new TreeMap<>();
        Integer program = null;
        Integer programCandidate = null;
        Integer clock = null;
        int flag = 0;
        Map<Integer, Integer> name = new TreeMap<>();
        Map<Integer, Integer> candidates = new TreeMap<>();
        Map<Integer, Integer> list = new TreeMap<>();

        State copy() {
            State s = new State();
            s.window = window;
            s.heard = heard;
            s.since = since;
            s.sync = sync;
            s.due = due;
            s.phase = phase;
            s.bads = bads;
            s.counts = counts.clone();
            s.lastHit = lastHit;
            s.parts = new TreeMap<>(parts);
            s.program = program;
            s.programCandidate = programCandidate;
            s.clock = clock;
            s.flag = flag;
            s.name = new TreeMap<>(name);
            s.candidates = new TreeMap<>(candidates);
            s.list = new TreeMap<>(list);
            return s;
        }
    }

    private static final class Sight {
        final int group;
        final int what;
        final int v;

        Sight(int group, int what, int v) {
            this.group = group;
            this.what = what;
            this.v = v;
        }
    }

    private String text = "";
    private int g = 1;
    private int[] offsets = {0, 1, 2, 3};
    private int longest = 0;
    private int hold = 1;
    private State now = new State();
    private List<State> acts = new ArrayList<>();
    private State[] slots = new State[2];
    private List<Sight> seen = new ArrayList<>();
    private long theSeed = 0;
    private List<Integer> bursts = new ArrayList<>();
    private int[] rests = nothingYet();

    // ---- numbers and bits

    private static int[] nothingYet() {
        int[] row = new int[16384];
        Arrays.fill(row, -1);
        return row;
    }

    private static String binary(int v, int n) {
        StringBuilder b = new StringBuilder();
        for (int i = n - 1; i >= 0; i--) {
            b.append((v >> i & 1) == 1 ? '1' : '0');
        }
        return b.toString();
    }

    private static String turn(String bits, int at) {
        char other = bits.charAt(at) == '1' ? '0' : '1';
        return bits.substring(0, at) + other + bits.substring(at + 1);
    }

    private static String turnAll(String bits) {
        return bits.replace('0', 'x').replace('1', '0').replace('x', '1');
    }

    private int divide(int v) {
        if (rests[v] < 0) {
            rests[v] = longDivision(v);
        }
        return rests[v];
    }

    private int longDivision(int v) {
        String divisor = "1" + binary(g, 6);
        String left = binary(v, 20);
        for (int at = 0; at + 7 <= 20; at++) {
            if (left.charAt(at) == '1') {
                for (int i = 0; i < 7; i++) {
                    if (divisor.charAt(i) == '1') {
                        left = turn(left, at + i);
                    }
                }
            }
        }
        return Integer.parseInt(left, 2);
    }

    private int wordOf(int k, int d) {
        return 64 * d + (divide(64 * d) ^ offsets[k]);
    }

    private int restOf(int k, int w) {
        return divide(w ^ offsets[k]);
    }

    private void findBursts() {
        bursts = new ArrayList<>();
        for (int set = 1; set <= 16383; set++) {
            int high = Integer.toBinaryString(set).length() - 1;
            int low = Integer.numberOfTrailingZeros(set);
            if (high - low < longest) {
                bursts.add(set);
            }
        }
    }

    private Integer sureBurst(int rest) {
        if (rest == 0) {
            return null;
        }
        Integer found = null;
        for (int burst : bursts) {
            if (divide(burst) == rest) {
                if (found != null) {
                    return null;
                }
                found = burst;
            }
        }
        return found;
    }

    // ---- what is heard

    private void hearAll(State s, String bits) {
        for (char c : bits.toCharArray()) {
            hearOne(s, c);
        }
    }

    private void hearOne(State s, char bit) {
        s.window = s.window.substring(1) + bit;
        s.heard++;
        s.since++;
        int w = Integer.parseInt(s.window, 2);
        if (s.sync) {
            s.phase++;
            if (s.phase == 14) {
                s.phase = 0;
                block(s, w);
            }
            return;
        }
        if (s.since < 14) {
            return;
        }
        for (int k = 0; k < 4; k++) {
            if (restOf(k, w) == 0) {
                hit(s, k, w);
                return;
            }
        }
    }

    private void hit(State s, int k, int w) {
        if (s.lastHit != null) {
            for (int m = 1; m <= 4; m++) {
                if (s.heard - s.lastHit[0] == 14 * m && k == (s.lastHit[1] + m) % 4) {
                    s.sync = true;
                    s.due = (k + 1) % 4;
                    s.phase = 0;
                    s.bads = 0;
                    s.parts.clear();
                    s.counts[0]++;
                    s.parts.put(k, w / 64);
                    if (k == 3) {
                        look(s);
                    }
                    return;
                }
            }
        }
        s.lastHit = new int[] {s.heard, k};
    }

    private void block(State s, int w) {
        if (s.due == 0) {
            s.parts.clear();
        }
        int rest = restOf(s.due, w);
        Integer burst = sureBurst(rest);
        if (rest == 0) {
            s.counts[0]++;
            s.bads = 0;
            s.parts.put(s.due, w / 64);
        } else if (burst != null) {
            s.counts[1]++;
            s.parts.put(s.due, (w ^ burst) / 64);
        } else {
            s.counts[2]++;
            s.bads++;
            s.parts.remove(s.due);
            if (s.bads == hold) {
                lost(s);
                return;
            }
        }
        if (s.due == 3) {
            look(s);
        }
        s.due = (s.due + 1) % 4;
    }

    private static void lost(State s) {
        s.sync = false;
        s.lastHit = null;
        s.since = 0;
        s.parts.clear();
        s.counts[3]++;
    }

    private static void resetOf(State s) {
        if (s.sync) {
            lost(s);
        }
        s.lastHit = null;
        s.since = 0;
    }

    private static void look(State s) {
        Integer a = s.parts.get(0);
        Integer b = s.parts.get(1);
        Integer c = s.parts.get(2);
        Integer d = s.parts.get(3);
        if (a != null) {
            if (a.equals(s.programCandidate)) {
                s.program = a;
            }
            s.programCandidate = a;
        }
        if (b == null) {
            return;
        }
        int kind = b / 64;
        int low = b % 64;
        if (kind == 0 && c != null && d != null) {
            Integer pair = 256 * c + d;
            if (pair.equals(s.candidates.get(low % 4))) {
                s.name.put(low % 4, pair);
            }
            s.candidates.put(low % 4, pair);
        }
        if (kind == 1 && c != null && d != null && c <= 23 && d <= 59) {
            s.clock = 60 * c + d;
        }
        if (kind == 2) {
            heardOf(s, c);
            heardOf(s, d);
        }
        if (kind == 3) {
            if (low % 2 != s.flag) {
                s.name.clear();
                s.candidates.clear();
            }
            s.flag = low % 2;
        }
    }

    private static void heardOf(State s, Integer station) {
        if (station == null || station < 1 || station > 204) {
            return;
        }
        if (s.list.containsKey(station)) {
            s.list.put(station, Math.min(99, s.list.get(station) + 1));
        } else if (s.list.size() < 8) {
            s.list.put(station, 1);
        }
    }

    private String groupBits(int group) {
        String bits = "";
        for (int k = 0; k < 4; k++) {
            bits += binary(wordOf(k, group >>> (24 - 8 * k) & 255), 14);
        }
        return bits;
    }

    // ---- the station

    int write(int letter) {
        if (letter < 0 || letter > 255) {
            return BAD;
        }
        if (text.length() == 40) {
            return FULL;
        }
        text += (char) letter;
        return text.length();
    }

    int wipe() {
        int was = text.length();
        text = "";
        return was;
    }

    int fault() {
        for (int n = 1; n <= Math.min(13, text.length()); n++) {
            if (!canBegin(text.substring(0, n), 0, new ArrayList<>())) {
                return n - 1;
            }
        }
        if (text.length() == 13) {
            return NONE;
        }
        return Math.min(13, text.length());
    }

    /** Whether some STATION begins so: every value of every field is tried. */
    private static boolean canBegin(String head, int field, List<Integer> taken) {
        if (head.isEmpty()) {
            return true;
        }
        if (field == 0) {
            return head.charAt(0) == 'S' && canBegin(head.substring(1), 1, taken);
        }
        int figures = field <= 5 ? 2 : 1;
        for (int v = 0; v < (figures == 2 ? 100 : 10); v++) {
            String told = figures == 2 ? "" + v / 10 + v % 10 : "" + v;
            int n = Math.min(figures, head.length());
            if (!told.substring(0, n).equals(head.substring(0, n)) || !canBe(field, v, taken)) {
                continue;
            }
            List<Integer> more = new ArrayList<>(taken);
            if (field >= 2 && field <= 5) {
                more.add(v);
            }
            if (canBegin(head.substring(n), field + 1, more)) {
                return true;
            }
        }
        return false;
    }

    private static boolean canBe(int field, int v, List<Integer> taken) {
        switch (field) {
            case 1: return v >= 1 && v <= 63 && v % 2 == 1;
            case 6: return v <= 3;
            case 7: return v >= 1;
            default: return v <= 63 && !taken.contains(v);
        }
    }

    int station() {
        if (fault() != NONE) {
            return LATE;
        }
        g = Integer.parseInt(text.substring(1, 3));
        offsets = new int[4];
        for (int k = 0; k < 4; k++) {
            offsets[k] = Integer.parseInt(text.substring(3 + 2 * k, 5 + 2 * k));
        }
        longest = text.charAt(11) - '0';
        hold = text.charAt(12) - '0';
        now = new State();
        acts = new ArrayList<>();
        slots = new State[2];
        rests = nothingYet();
        findBursts();
        return g;
    }

    int about(int what) {
        if (what >= 3 && what <= 12) {
            return aboutState(now, what);
        }
        int sure = 0;
        for (int burst : bursts) {
            sure += sureBurst(divide(burst)) == null ? 0 : 1;
        }
        switch (what) {
            case 0: return g;
            case 1: return longest;
            case 2: return hold;
            case 13: return acts.size();
            case 14: return seen.size();
            case 15: return text.length();
            case 16: return bursts.size();
            case 17: return sure;
            default: return BAD;
        }
    }

    private static int aboutState(State s, int what) {
        int[] row = {s.heard, Integer.parseInt(s.window, 2), s.sync ? 1 : 0, s.sync ? s.due : NONE,
            s.sync ? s.phase : NONE, s.sync ? s.bads : NONE, s.counts[0], s.counts[1], s.counts[2], s.counts[3]};
        return row[what - 3];
    }

    int offset(int k) {
        return k < 0 || k > 3 ? UNKNOWN : offsets[k];
    }

    private static int orNone(Integer v) {
        return v == null ? NONE : v;
    }

    private static int keysAsBits(Map<Integer, Integer> map) {
        int set = 0;
        for (int key : map.keySet()) {
            set += 1 << key;
        }
        return set;
    }

    int told(int what) {
        switch (what) {
            case 0: return orNone(now.program);
            case 1: return orNone(now.programCandidate);
            case 2: return orNone(now.clock);
            case 3: return now.flag;
            case 4: return now.list.size();
            case 5: return keysAsBits(now.name);
            case 6: return keysAsBits(now.parts);
            default: return BAD;
        }
    }

    int part(int k) {
        return k < 0 || k > 3 ? UNKNOWN : orNone(now.parts.get(k));
    }

    int name(int place, boolean candidate) {
        if (place < 0 || place > 3) {
            return UNKNOWN;
        }
        return orNone((candidate ? now.candidates : now.name).get(place));
    }

    int list(int i, boolean times) {
        List<Integer> order = new ArrayList<>(now.list.keySet());
        // The sort leaves like ones as they were: by their numbers, as the map has them.
        Collections.sort(order, (a, b) -> now.list.get(b) - now.list.get(a));
        if (i < 0 || i >= order.size()) {
            return NONE;
        }
        return times ? now.list.get(order.get(i)) : order.get(i);
    }

    // ---- words

    int word(int k, int d) {
        if (k < 0 || k > 3) {
            return UNKNOWN;
        }
        return d < 0 || d > 255 ? BAD : wordOf(k, d);
    }

    int rest(int k, int w) {
        if (k < 0 || k > 3) {
            return UNKNOWN;
        }
        return w < 0 || w > 16383 ? BAD : restOf(k, w);
    }

    int mended(int k, int w) {
        if (k < 0 || k > 3) {
            return UNKNOWN;
        }
        if (w < 0 || w > 16383) {
            return BAD;
        }
        return orNone(heardAs(k, w));
    }

    private Integer heardAs(int k, int w) {
        State s = new State();
        s.sync = true;
        s.due = k;
        block(s, w);
        return s.parts.get(k);
    }

    int distance() {
        int least = 99;
        int[] words = new int[256];
        for (int d = 0; d < 256; d++) {
            words[d] = wordOf(2, d);
        }
        for (int a = 0; a < 256; a++) {
            for (int b = 0; b < a; b++) {
                least = Math.min(least, Integer.bitCount(words[a] ^ words[b]));
            }
        }
        return least;
    }

    int flips(int n, int what) {
        if (n < 0 || n > 4 || what < 0 || what > 3) {
            return BAD;
        }
        int d = 0xB5;
        int whole = wordOf(1, d);
        int often = 0;
        for (int set = 0; set <= 16383; set++) {
            if (Integer.bitCount(set) == n) {
                Integer as = heardAs(1, whole ^ set);
                int fate = restOf(1, whole ^ set) == 0 ? 0 : as == null ? 3 : as == d ? 1 : 2;
                often += fate == what ? 1 : 0;
            }
        }
        return often;
    }

    int slips(int k, int d, int e) {
        if (k < 0 || k > 3) {
            return UNKNOWN;
        }
        if (d < 0 || d > 255 || e < 0 || e > 255) {
            return BAD;
        }
        String both = binary(wordOf(k, d), 14) + binary(wordOf((k + 1) % 4, e), 14);
        int set = 0;
        for (int i = 1; i <= 13; i++) {
            int w = Integer.parseInt(both.substring(i, i + 14), 2);
            for (int any = 0; any < 4; any++) {
                if (restOf(any, w) == 0) {
                    set |= 1 << i;
                }
            }
        }
        return set;
    }

    // ---- acts

    private void act() {
        if (acts.size() == 14) {
            acts.remove(0);
        }
        acts.add(now.copy());
    }

    int bits(int n, int v) {
        if (n < 1 || n > 14 || v < 0 || v >= 1 << n) {
            return BAD;
        }
        act();
        hearAll(now, binary(v, n));
        return now.sync ? 1 : 0;
    }

    int hear(int k, int d, int mask) {
        if (k < 0 || k > 3) {
            return UNKNOWN;
        }
        if (d < 0 || d > 255 || mask < 0 || mask > 16383) {
            return BAD;
        }
        act();
        hearAll(now, binary(wordOf(k, d) ^ mask, 14));
        return now.sync ? 1 : 0;
    }

    int group(int group, int n) {
        if (n < 1 || n > 9) {
            return BAD;
        }
        act();
        int was = now.counts[0] + now.counts[1];
        hearAll(now, groupBits(group).repeat(n));
        return now.counts[0] + now.counts[1] - was;
    }

    int reset() {
        act();
        int was = now.sync ? 1 : 0;
        resetOf(now);
        return was;
    }

    int undo() {
        if (acts.isEmpty()) {
            return LATE;
        }
        now = acts.remove(acts.size() - 1);
        return acts.size();
    }

    // ---- asked

    int ahead(int group, int n, int what) {
        if (n < 0 || n > 9 || what < 3 || what > 12) {
            return BAD;
        }
        State s = now.copy();
        hearAll(s, groupBits(group).repeat(n));
        return aboutState(s, what);
    }

    int needs(int group) {
        for (int n = 0; n <= 9; n++) {
            if (ahead(group, n, 5) == 1) {
                return n;
            }
        }
        return NONE;
    }

    int judge(int n, long row) {
        if (n < 1 || n > 3 || row < 0 || Long.toString(row).length() > 5 * n) {
            return BAD;
        }
        String figures = "0".repeat(5 * n - Long.toString(row).length()) + row;
        State s = now.copy();
        for (int i = 0; i < n; i++) {
            if (!doingHolds(s, figures.substring(5 * i, 5 * i + 5))) {
                return i;
            }
        }
        return NONE;
    }

    private boolean doingHolds(State s, String doing) {
        int second = doing.charAt(1) - '0';
        int three = Integer.parseInt(doing.substring(2));
        if (doing.matches("1[0-3]...") && three <= 255) {
            hearAll(s, binary(wordOf(second, three), 14));
            return true;
        }
        if (doing.equals("20000")) {
            resetOf(s);
            return true;
        }
        if (doing.matches("3[01]000")) {
            return s.sync == (second == 1);
        }
        if (doing.matches("4[0-3][01]00")) {
            return s.name.containsKey(second) == (three == 100);
        }
        if (doing.matches("5[0-3]...")) {
            return s.parts.containsKey(second) && s.parts.get(second) == three;
        }
        return doing.matches("60...") && s.program != null && s.program == three;
    }

    // ---- seen

    int see(int group, int what, int v) {
        if (what < 0 || what > 2 || v < 0 || v > 9) {
            return BAD;
        }
        if (seen.size() == 4) {
            return FULL;
        }
        seen.add(new Sight(group, what, v));
        return seen.size();
    }

    int unsee() {
        int were = seen.size();
        seen.clear();
        return were;
    }

    long which() {
        long set = 0;
        for (int bit = 0; bit < 56; bit++) {
            boolean all = true;
            for (Sight sight : seen) {
                State s = now.copy();
                hearAll(s, turn(groupBits(sight.group), bit));
                all &= s.counts[sight.what] - now.counts[sight.what] == sight.v;
            }
            set |= all ? 1L << bit : 0;
        }
        return set;
    }

    // ---- shares, chances

    private int goodWith(int group, boolean[] come) {
        String bits = groupBits(group);
        String heard = "";
        for (int k = 0; k < 4; k++) {
            String one = bits.substring(14 * k, 14 * k + 14);
            heard += come[k] ? one : turnAll(one);
        }
        State s = now.copy();
        hearAll(s, heard.repeat(3));
        return s.counts[0];
    }

    int share(int group, int word, boolean upper) {
        if (word < 0 || word > 3) {
            return UNKNOWN;
        }
        long sum = 0;
        int orders = 0;
        for (int order = 0; order < 256; order++) {
            List<Integer> row = List.of(order >> 6 & 3, order >> 4 & 3, order >> 2 & 3, order & 3);
            if (!row.containsAll(List.of(0, 1, 2, 3))) {
                continue;
            }
            orders++;
            boolean[] come = new boolean[4];
            for (int k : row) {
                int was = k == word ? goodWith(group, come) : 0;
                come[k] = true;
                sum += k == word ? goodWith(group, come) - was : 0;
            }
        }
        return told(BigInteger.valueOf(sum), BigInteger.valueOf(orders), upper);
    }

    private static int told(BigInteger above, BigInteger below, boolean upper) {
        BigInteger both = above.gcd(below);
        return (upper ? above : below).divide(both).intValueExact();
    }

    int chance(int group, int n, int x, boolean upper) {
        if (n < 1 || n > 2 || x < 0 || x > 10) {
            return BAD;
        }
        String bits = groupBits(group).repeat(n);
        BigInteger sum = BigInteger.ZERO;
        for (int turned = 0; turned < 1 << (4 * n); turned++) {
            String heard = "";
            BigInteger likely = BigInteger.ONE;
            for (int i = 0; i < 4 * n; i++) {
                String one = bits.substring(14 * i, 14 * i + 14);
                boolean spoilt = (turned >> i & 1) == 1;
                heard += spoilt ? turnAll(one) : one;
                likely = likely.multiply(BigInteger.valueOf(spoilt ? x : 10 - x));
            }
            State s = now.copy();
            hearAll(s, heard);
            sum = s.sync ? sum.add(likely) : sum;
        }
        return told(sum, BigInteger.TEN.pow(4 * n), upper);
    }

    long seed(long v) {
        long was = theSeed;
        theSeed = v;
        return was;
    }

    int drawn(int m) {
        if (m < 1 || m > 40) {
            return BAD;
        }
        State s = now.copy();
        int often = 0;
        for (int i = 0; i < m; i++) {
            theSeed = theSeed * 6364136223846793005L + 1442695040888963407L;
            int v = (int) (theSeed >>> 33);
            String heard = binary(wordOf(i & 3, v & 255), 14);
            if ((v >> 8) % 4 == 0) {
                heard = turn(heard, 13 - (v >> 12) % 14);
            }
            hearAll(s, heard);
            often += s.sync ? 1 : 0;
        }
        return often;
    }

    // ---- slots

    int keep(int slot) {
        if (slot < 0 || slot > 1) {
            return UNKNOWN;
        }
        slots[slot] = now.copy();
        return now.heard;
    }

    int again(int slot) {
        if (slot < 0 || slot > 1) {
            return UNKNOWN;
        }
        if (slots[slot] == null) {
            return LATE;
        }
        now = slots[slot].copy();
        acts = new ArrayList<>();
        return now.heard;
    }
}
