import java.util.ArrayList;
import java.util.List;

/** Parts 2 and 3 of the document's Terms: one test for each sentence that names an edge. */
final class EdgesOfAsking extends Made {
    private static final int[] GROUPS = {A, 0, -1, Integer.MIN_VALUE, Integer.MAX_VALUE, 0x5402C869};

    private EdgesOfAsking() {
    }

    static void run(Edges edges) {
        askedAhead(edges);
        judged(edges);
        seen(edges);
        sharesAndSeeds(edges);
    }

    // ---- part 2

    private static void askedAhead(Edges edges) {
        edges.of(HEAD, "In what follows nothing is changed.", EdgesOfAsking::nothingIsChanged);
        edges.of(HEAD, "A GROUP of four bytes a, b, c, d (an int, a its highest eight bits): THE WORDS of a, b, c, d "
            + "for OFFSETS 0, 1, 2, 3, one behind the other, are HEARD.", EdgesOfAsking::fourBytes);
        edges.of(HEAD, "AHEAD: how it is behind a GROUP, HEARD n times.", EdgesOfAsking::ahead);
        edges.of(HEAD, "NEEDS: how often a GROUP must be HEARD (0 .. 9 times) so that there is SYNC first; NONE.",
            EdgesOfAsking::needs);
        edges.of(HEAD, "DISTANCE: the fewest bits in which two WORDS with REST 0 for one OFFSET differ.",
            EdgesOfAsking::distance);
        edges.of(HEAD, "FLIPS of n (0 .. 4): of all sets of n bits of a WORD, turned in THE WORD of some d "
            + "(whichever), by which what comes, as a BLOCK with SYNC, is GOOD (what = 0), MENDED to what it was (1), "
            + "MENDED to another one (2), SPOILT (3): how many.", EdgesOfAsking::flips);
        edges.of(HEAD, "SLIPS of d, e and k: THE WORD of d for OFFSET k and that of e for the next OFFSET (0 behind "
            + "3) one behind the other: at which of the 13 places between (i 1 .. 13 bits behind the first one's) the "
            + "14 bits have REST 0 for any OFFSET: bits (bit i).", EdgesOfAsking::slips);
    }

    private static void nothingIsChanged() {
        for (int n = 0; n <= 2; n++) {
            SideWords x = heardA("13", n);
            x.bits(3, 5);
            x.see(A, 0, 3);
            String was = look(x);
            x.ahead(A, 9, 9);
            x.needs(A);
            x.distance();
            x.flips(4, 3);
            x.slips(3, 255, 0);
            x.judge(3, 200001012811003L);
            x.which();
            x.share(A, 3, true);
            x.chance(A, 2, 5, false);
            x.word(3, 255);
            x.rest(3, 16383);
            x.mended(3, 16383);
            x.fault();
            same("behind " + n + " GROUPS", look(x), was);
            due.is("ACTS are as they were", x.undo(), n == 0 ? 0 : 1);
            due.is("HEARD", x.about(3), 56 * n);
        }
    }

    private static void fourBytes() {
        for (int group : GROUPS) {
            SideWords x = heardA("09", 1);
            due.is("all GOOD", x.group(group, 1), 4);
            for (int k = 0; k < 4; k++) {
                due.is("PART " + k + " of " + group, x.part(k), byteOf(group, k));
            }
            due.is("the last WORD came last", x.about(4), wordByHand(3, group & 255));
            due.is("56 bits", x.about(3), 112);
        }
    }

    private static void ahead() {
        for (int group : GROUPS) {
            for (int n = 0; n <= 9; n++) {
                SideWords now = told(BUSY);
                now.bits(5, 21);
                SideWords then = told(BUSY);
                then.bits(5, 21);
                if (n > 0) {
                    then.group(group, n);
                }
                for (int what = 3; what <= 12; what++) {
                    String call = "ahead(" + group + ", " + n + ", " + what + ")";
                    due.is(call, now.ahead(group, n, what), then.about(what));
                }
            }
        }
    }

    private static void needs() {
        due.is("0: there is SYNC", heardA("01", 1).needs(A), 0);
        due.is("1", heardA("01", 0).needs(A), 1);
        due.is("NONE: zeros are HITS bit by bit", new SideWords().needs(0), NONE);
        boolean[] came = new boolean[10];
        for (int i = 0; i < 4000; i++) {
            int group = i * 715827883;
            SideWords y = behindSome("S636300010201", i);
            int want = NONE;
            for (int n = 0; n <= 9 && want == NONE; n++) {
                want = y.about(5) == 1 ? n : NONE;
                y.group(group, 1);
            }
            due.is("needs(" + group + ")", behindSome("S636300010201", i).needs(group), want);
            came[want == NONE ? 0 : want] = true;
        }
        due.holds("one, two, three and never come", came[0] && came[1] && came[2] && came[3]);
    }

    private static void distance() {
        for (int g = 1; g <= 63; g += 2) {
            SideWords x = told("S" + twoFigures(g) + "6300174501");
            int least = 14;
            for (int d = 1; d <= 255; d++) {
                least = Math.min(least, Integer.bitCount(64 * d | divided(64 * d, g)));
            }
            due.is("distance by G " + g, x.distance(), least);
        }
    }

    private static void flips() {
        int[] gs = {1, 3, 39, 63};
        for (int g : gs) {
            for (int longest = 0; longest <= 3; longest++) {
                SideWords x = told("S" + twoFigures(g) + "10203040" + longest + "1");
                int[][] counts = new int[5][4];
                for (int set = 0; set <= 16383; set++) {
                    if (Integer.bitCount(set) <= 4) {
                        counts[Integer.bitCount(set)][fateByHand(set, g, longest)]++;
                    }
                }
                for (int n = 0; n <= 4; n++) {
                    for (int what = 0; what <= 3; what++) {
                        due.is("flips(" + n + ", " + what + ")", x.flips(n, what), counts[n][what]);
                    }
                }
            }
        }
    }

    /** What comes of a set of turned bits, as flips() numbers it. */
    private static int fateByHand(int set, int g, int longest) {
        int rest = divided(set, g);
        if (rest == 0) {
            return 0;
        }
        List<Integer> like = new ArrayList<>();
        for (int burst : burstsByHand(longest)) {
            if (divided(burst, g) == rest) {
                like.add(burst);
            }
        }
        if (like.size() != 1) {
            return 3;
        }
        return like.get(0) == set ? 1 : 2;
    }

    private static void slips() {
        int all = 0;
        for (int k = 0; k < 4; k++) {
            for (int i = 0; i < 60; i++) {
                SideWords x = heardA("01", 0);
                int d = i * 37 & 255;
                int e = i * 91 + k & 255;
                String row = binary(wordByHand(k, d)) + binary(wordByHand(k + 1 & 3, e));
                int want = 0;
                for (int place : hitPlaces(row)) {
                    want |= 1 << (place - 14);
                }
                // The WORDS themselves, at 0 and 14, are not between.
                due.is("slips(" + k + ", " + d + ", " + e + ")", x.slips(k, d, e), want & 0x3FFE);
                all |= want & 0x3FFE;
            }
        }
        due.is("each place comes", all, 0x3FFE);
        due.is("all 13 at once", new SideWords().slips(0, 0, 0), 0x3FFE);
    }

    // ---- JUDGED

    private static void judged(Edges edges) {
        edges.of(HEAD, "JUDGED: n doings (1 .. 3), told as five figures each, the first doing's the highest of row",
            EdgesOfAsking::oneToThree);
        edges.of(HEAD, "1, k, three figures d: THE WORD of d for OFFSET k is HEARD;", EdgesOfAsking::judgedWord);
        edges.of(HEAD, "2, 0, 0, 0, 0: RESET;", EdgesOfAsking::judgedReset);
        edges.of(HEAD, "3, 1 or 0, 0, 0, 0: there is SYNC, or not;", EdgesOfAsking::judgedSync);
        edges.of(HEAD, "4, a PLACE, 1 or 0, 0, 0: NAME has something there, or not;", EdgesOfAsking::judgedName);
        edges.of(HEAD, "5, k, three figures d: PART k is d;", EdgesOfAsking::judgedPart);
        edges.of(HEAD, "6, 0, three figures: THE PROGRAM is that):", EdgesOfAsking::judgedProgram);
        edges.of(HEAD, "the place (from 0) of the first that can not be (or is not so); NONE: none.",
            EdgesOfAsking::firstThatIsNotSo);
        edges.of(HEAD, "1, 2 are done, from then on, if they can be (d 0 .. 255); 3 .. 6 are asked as it is then.",
            EdgesOfAsking::doneFromThenOn);
    }

    /** All doings of one kind, 10000 rows, of which just those of a list are so. */
    private static void justThese(String station, int groups, int kind, int... so) {
        for (int from = 0; from < 10000; from += 400) {
            SideWords x = told(station);
            if (groups > 0) {
                x.group(A, groups);
            }
            for (int i = from; i < from + 400; i++) {
                boolean isSo = false;
                for (int one : so) {
                    isSo |= one == 10000 * kind + i;
                }
                due.is("judge(1, " + (10000 * kind + i) + ")", x.judge(1, 10000 * kind + i), isSo ? NONE : 0);
            }
        }
    }

    private static void oneToThree() {
        SideWords x = heardA("01", 1);
        due.is("none", x.judge(0, 0L), BAD);
        due.is("one", x.judge(1, 31000L), NONE);
        due.is("two", x.judge(2, 3100031000L), NONE);
        due.is("three", x.judge(3, 310003100031000L), NONE);
        due.is("four", x.judge(4, 310003100031000L), BAD);
        due.is("the first is the highest", x.judge(2, 3000031000L), 0);
        due.is("the second is the lowest", x.judge(2, 3100030000L), 1);
        due.is("the third", x.judge(3, 310003100030000L), 2);
        due.is("figures that are not told are 0", x.judge(2, 31000L), 0);
    }

    private static void judgedWord() {
        List<Integer> so = new ArrayList<>();
        for (int k = 0; k < 4; k++) {
            for (int d = 0; d <= 255; d++) {
                so.add(10000 + 1000 * k + d);
            }
        }
        justThese("S031020304001", 0, 1, so.stream().mapToInt(Integer::intValue).toArray());
        due.is("d 255 is HEARD", heardA("09", 1).judge(2, 1025550255L), NONE);
        due.is("d 0 is HEARD", heardA("09", 1).judge(2, 1000050000L), NONE);
        due.is("OFFSET 3 does not fit here", heardA("09", 1).judge(2, 1300050000L), 1);
    }

    private static void judgedReset() {
        justThese("S031020304001", 1, 2, 20000);
        due.is("RESET is done", heardA("01", 1).judge(2, 2000030000L), NONE);
        due.is("without SYNC, too", heardA("01", 0).judge(2, 2000030000L), NONE);
        SideWords x = heardA("01", 0);
        x.hear(0, 128, 0);
        due.is("the LAST HIT is there", x.judge(2, 1100331000L), NONE);
        due.is("it is gone then", x.judge(3, 200001100331000L), 2);
    }

    private static void judgedSync() {
        justThese("S031020304001", 0, 3, 30000);
        justThese("S031020304001", 1, 3, 31000);
    }

    private static void judgedName() {
        justThese("S031020304001", 0, 4, 40000, 41000, 42000, 43000);
        justThese("S031020304001", 2, 4, 40000, 41000, 42000, 43100);
    }

    private static void judgedPart() {
        justThese("S031020304001", 0, 5);
        justThese("S031020304001", 1, 5, 51003, 52129, 53133);
        justThese("S031020304001", 2, 5, 50128, 51003, 52129, 53133);
        SideWords x = heardA("09", 1);
        x.group(0, 1);
        due.is("0", x.judge(1, 50000L), NONE);
        x.group(-1, 1);
        due.is("255", x.judge(1, 53255L), NONE);
    }

    private static void judgedProgram() {
        justThese("S031020304001", 2, 6);
        justThese("S031020304001", 3, 6, 60128);
        SideWords x = heardA("09", 1);
        x.group(groupOf(0, 0xC0, 0, 0), 2);
        due.is("0", x.judge(1, 60000L), NONE);
        x.group(groupOf(255, 0xC0, 0, 0), 2);
        due.is("255", x.judge(1, 60255L), NONE);
    }

    private static void firstThatIsNotSo() {
        SideWords x = heardA("01", 1);
        due.is("the first", x.judge(3, 300003000030000L), 0);
        due.is("the second", x.judge(3, 310003000030000L), 1);
        due.is("the third", x.judge(3, 310003100030000L), 2);
        due.is("none", x.judge(3, 310003100031000L), NONE);
        due.is("one that can not be", x.judge(3, 310001025630000L), 1);
        due.is("no such doing", x.judge(1, 0L), 0);
        justThese("S031020304001", 1, 0);
        justThese("S031020304001", 1, 7);
        justThese("S031020304001", 1, 8);
        justThese("S031020304001", 1, 9);
    }

    private static void doneFromThenOn() {
        SideWords x = heardA("01", 0);
        due.is("two WORDS, then SYNC", x.judge(3, 101281100331000L), NONE);
        due.is("asked ahead of them", x.judge(3, 310001012811003L), 0);
        due.is("asked between", x.judge(3, 101283000011003L), NONE);
        due.is("d 256 can not be", x.judge(3, 101281125631000L), 1);
        due.is("OFFSET 4 can not be", x.judge(3, 101281400331000L), 1);
        due.is("nothing is HEARD", x.about(3), 0);
        due.is("each call begins anew", x.judge(2, 1100331000L), 1);
    }

    // ---- part 3

    private static void seen(Edges edges) {
        edges.of(HEAD, "SEEN: that, a told GROUP being HEARD from now on with one unknown bit of it (0 .. 55, the "
            + "first one HEARD is 0) turned, COUNTS are more by v (0 .. 9) behind it: GOOD (what = 0), MENDED (1), "
            + "SPOILT (2),", EdgesOfAsking::seenByHand);
        edges.of(HEAD, "from how all is when that is asked (not when it was told):", EdgesOfAsking::whenItIsAsked);
        edges.of(HEAD, "never more than 4, none at first.", EdgesOfAsking::fourSeen);
        edges.of(HEAD, "WHICH: bits by which all that is SEEN is so (a long).", EdgesOfAsking::allThatIsSeen);
    }

    /** The places at which a turned bit brings v more of a COUNT, from a station behind some GROUPS A. */
    private static long placesByHand(String station, int groups, int group, int what, int v) {
        long places = 0;
        for (int place = 0; place < 56; place++) {
            SideWords x = told(station);
            if (groups > 0) {
                x.group(A, groups);
            }
            int was = x.about(9 + what);
            for (int k = 0; k < 4; k++) {
                x.hear(k, byteOf(group, k), place / 14 == k ? 1 << (13 - place % 14) : 0);
            }
            places |= x.about(9 + what) - was == v ? 1L << place : 0L;
        }
        return places;
    }

    private static void seenByHand() {
        String[] stations = {"S031020304002", "S031020304021", BUSY};
        long came = 0;
        for (String station : stations) {
            for (int groups = 0; groups <= 1; groups++) {
                for (int what = 0; what <= 2; what++) {
                    for (int v = 0; v <= 9; v += v == 4 ? 5 : 1) {
                        SideWords x = told(station);
                        if (groups > 0) {
                            x.group(A, groups);
                        }
                        x.see(0x5402C869, what, v);
                        long want = placesByHand(station, groups, 0x5402C869, what, v);
                        due.is(station + " which() of " + what + ", " + v, x.which(), want);
                        came |= want == ALL_PLACES ? 0 : want;
                    }
                }
            }
        }
        due.holds("the first and the last place come", (came & 1) == 1 && (came >> 55 & 1) == 1);
    }

    private static void whenItIsAsked() {
        SideWords x = heardA("09", 0);
        x.see(A, 0, 3);
        due.is("without SYNC", x.which(), placesByHand("S031020304009", 0, A, 0, 3));
        due.holds("not all without SYNC", x.which() != ALL_PLACES);
        x.group(A, 1);
        due.is("with SYNC one of four is SPOILT", x.which(), ALL_PLACES);
        x.undo();
        due.is("without SYNC again", x.which(), placesByHand("S031020304009", 0, A, 0, 3));
    }

    private static void fourSeen() {
        SideWords x = heardA("01", 0);
        due.is("none at first", x.about(14), 0);
        for (int i = 1; i <= 4; i++) {
            due.is("SEEN", x.see(A, 0, 0), i);
        }
        due.is("a fifth", x.see(A, 0, 0), FULL);
        due.is("four", x.about(14), 4);
    }

    private static void allThatIsSeen() {
        due.is("nothing SEEN: no bit is ruled out", new SideWords().which(), ALL_PLACES);
        SideWords x = told(BUSY);
        long want = ALL_PLACES;
        int[][] sights = {{A, 0, 2}, {0x5402C869, 2, 0}, {A, 1, 0}, {0x5402C869, 0, 2}};
        for (int[] sight : sights) {
            x.see(sight[0], sight[1], sight[2]);
            want &= placesByHand(BUSY, 0, sight[0], sight[1], sight[2]);
            due.is("all together", x.which(), want);
        }
        x.unsee();
        x.see(A, 0, 9);
        due.is("none", x.which(), 0);
    }

    private static void sharesAndSeeds(Edges edges) {
        edges.of(HEAD, "SHARE of a WORD (0 .. 3) of a GROUP: if its WORDS come one by one (all bits of others are "
            + "turned), in each order as likely: by how much more GOOD is behind that GROUP, HEARD 3 times, in the "
            + "mean when it has come: a FRACTION.", EdgesOfAsking::shares);
        edges.of(HEAD, "CHANCE: of each of the 4 n WORDS that are HEARD as a GROUP is HEARD n times (1, 2) all bits "
            + "are turned by x tenths (0 .. 10), each by itself: that there is SYNC behind it: a FRACTION.",
            EdgesOfAsking::chances);
        edges.of(HEAD, "DRAWN by THE SEED: m times (1 .. 40) x (THE SEED, a long; 0 at first) becomes x * "
            + "6364136223846793005L + 1442695040888963407L (64 bits, wrapping);", EdgesOfAsking::seedWraps);
        edges.of(HEAD, "v is (int) (x >>> 33): THE WORD of v & 255 for OFFSET i & 3 (i 0, 1, .. by turns) is HEARD, "
            + "its bit (v >> 12) % 14 turned, if (v >> 8) % 4 is 0; all from then on: how often there is SYNC behind "
            + "it.",
            EdgesOfAsking::drawnByHand);
        edges.of(HEAD, "(Nothing changes but THE SEED.)", EdgesOfAsking::nothingButTheSeed);
        edges.of(HEAD, "SLOTS 0 .. 1 keep all that came of what was HEARD (no ACTS when one goes on).",
            EdgesOfAsking::slots);
    }

    /** GOOD behind 3 times a GROUP, the WORDS that are not in a set turned, from a station behind a GROUP before. */
    private static int goodByHand(String station, int before, int group, int come) {
        SideWords x = told(station);
        x.group(before, 1);
        for (int i = 0; i < 12; i++) {
            x.hear(i & 3, byteOf(group, i & 3), (come >> (i & 3) & 1) == 1 ? 0 : 16383);
        }
        return x.about(9);
    }

    private static int sumOverOrders(int word, int[] good) {
        int sum = 0;
        for (int order = 0; order < 256; order++) {
            int come = 0;
            int more = 0;
            for (int i = 0; i < 4; i++) {
                int next = order >> 2 * i & 3;
                more = next == word ? good[come | 1 << next] - good[come] : more;
                come |= 1 << next;
            }
            sum += come == 15 ? more : 0;
        }
        return sum;
    }

    private static void shares() {
        String[] stations = {"S031020304001", "S031020304019", BUSY, "S636300010212"};
        boolean below = false;
        boolean broken = false;
        for (int i = 0; i < 120; i++) {
            String station = stations[i & 3];
            int before = GROUPS[i % GROUPS.length];
            int group = i < 12 ? GROUPS[i % GROUPS.length] : i * 715827883;
            int[] good = new int[16];
            for (int come = 0; come < 16; come++) {
                good[come] = goodByHand(station, before, group, come);
            }
            for (int word = 0; word < 4; word++) {
                SideWords x = told(station);
                x.group(before, 1);
                int above = x.share(group, word, true);
                int under = x.share(group, word, false);
                int sum = sumOverOrders(word, good);
                due.is("SHARE of " + word + " above", above, sum / gcd(sum, 24));
                due.is("SHARE of " + word + " below", under, 24 / gcd(sum, 24));
                below |= above < 0;
                broken |= under > 1;
            }
        }
        due.holds("some are less than 0, some are no whole numbers", below && broken);
    }

    private static void chances() {
        String[] stations = {"S031020304001", "S031020304002", BUSY};
        for (String station : stations) {
            for (int before = 0; before <= 1; before++) {
                for (int n = 1; n <= 2; n++) {
                    int[] withSync = new int[4 * n + 1];
                    for (int turned = 0; turned < 1 << 4 * n; turned++) {
                        withSync[Integer.bitCount(turned)] += syncByHand(station, before, n, turned);
                    }
                    for (int x = 0; x <= 10; x++) {
                        oneChance(station, before, n, x, withSync);
                    }
                }
            }
        }
    }

    private static int syncByHand(String station, int before, int n, int turned) {
        SideWords x = told(station);
        if (before > 0) {
            x.group(A, before);
        }
        int sync = 0;
        for (int i = 0; i < 4 * n; i++) {
            sync = x.hear(i & 3, byteOf(A, i & 3), (turned >> i & 1) == 1 ? 16383 : 0);
        }
        return sync;
    }

    private static void oneChance(String station, int before, int n, int x, int[] withSync) {
        int all = n == 1 ? 10000 : 100000000;
        int ways = 0;
        for (int turned = 0; turned <= 4 * n; turned++) {
            int weight = withSync[turned];
            for (int i = 0; i < 4 * n; i++) {
                weight *= i < turned ? x : 10 - x;
            }
            ways += weight;
        }
        SideWords y = told(station);
        if (before > 0) {
            y.group(A, before);
        }
        String call = station + " chance(A, " + n + ", " + x + ")";
        due.is(call + " above", y.chance(A, n, x, true), ways / gcd(ways, all));
        due.is(call + " below", y.chance(A, n, x, false), all / gcd(ways, all));
    }

    private static void seedWraps() {
        due.is("0 at first", new SideWords().seed(5), 0);
        long[] seeds = {0, 1, -1, Long.MAX_VALUE, Long.MIN_VALUE, 1L << 32};
        for (long seed : seeds) {
            for (int m = 1; m <= 40; m += 13) {
                SideWords x = heardA("01", 0);
                x.seed(seed);
                x.drawn(m);
                long want = seed;
                for (int i = 0; i < m; i++) {
                    want = want * 6364136223846793005L + 1442695040888963407L;
                }
                due.is("behind " + m + " from " + seed, x.seed(0), want);
            }
        }
        due.is("drawn(0)", heardA("01", 0).drawn(0), BAD);
        due.is("drawn(41)", heardA("01", 0).drawn(41), BAD);
    }

    static void drawnByHand() {
        String[] stations = {"S031020304019", "S031020304002", BUSY};
        boolean some = false;
        for (String station : stations) {
            for (int start = 0; start < 20; start++) {
                for (int m = 1; m <= 40; m += 13) {
                    SideWords x = told(station);
                    x.bits(2, start & 3);
                    SideWords y = told(station);
                    y.bits(2, start & 3);
                    x.seed(start * 0x9E3779B97F4A7C15L);
                    long s = start * 0x9E3779B97F4A7C15L;
                    int often = 0;
                    for (int i = 0; i < m; i++) {
                        s = s * 6364136223846793005L + 1442695040888963407L;
                        int v = (int) (s >>> 33);
                        often += y.hear(i & 3, v & 255, (v >> 8) % 4 == 0 ? 1 << (v >> 12) % 14 : 0);
                    }
                    due.is("drawn(" + m + ") by " + start, x.drawn(m), often);
                    some |= often > 0 && often < m;
                }
            }
        }
        due.holds("sometimes there is SYNC behind some", some);
    }

    private static void nothingButTheSeed() {
        SideWords x = heardA("12", 1);
        x.bits(3, 2);
        x.see(A, 0, 3);
        x.seed(99);
        String was = look(x);
        due.is("drawn(40)", x.drawn(40) >= 0 ? 1 : 0, 1);
        due.holds("THE SEED does", x.seed(99) != 99);
        same("all else does not", look(x), was);
        due.is("ACTS", x.undo(), 1);
    }

    private static void slots() {
        SideWords x = heardA("12", 3);
        x.group(groupOf(5, 0x40, 7, 8), 1);
        x.group(groupOf(5, 0x80, 7, 8), 1);
        x.bits(4, 9);
        String first = lookAtHeard(x);
        due.is("keep(0)", x.keep(0), 5 * 56 + 4);
        due.is("ACTS stay", x.about(13), 4);
        x.bits(10, 0);
        x.group(groupOf(9, 0x80, 8, 9), 2);
        x.group(groupOf(9, 0xC1, 0, 0), 2);
        x.reset();
        x.bits(7, 5);
        String second = lookAtHeard(x);
        due.holds("SLOT 0 is another one", !second.equals(first));
        due.is("keep(1)", x.keep(1), 9 * 56 + 21);
        x.group(A, 3);
        x.group(groupOf(9, 0x80, 100, 101), 1);
        for (int i = 0; i < 2; i++) {
            due.is("again(0)", x.again(0), 5 * 56 + 4);
            same("slot 0", lookAtHeard(x), first);
            due.is("no ACTS", x.about(13), 0);
            due.is("undo()", x.undo(), LATE);
            x.group(-1, 4);
            due.is("again(1)", x.again(1), 9 * 56 + 21);
            same("slot 1", lookAtHeard(x), second);
            due.is("no ACTS", x.about(13), 0);
            x.group(-1, 4);
        }
        due.is("slot -1", x.keep(-1), UNKNOWN);
        due.is("slot 2", x.keep(2), UNKNOWN);
        slotsKeepTheLastHit();
        slotsKeepTheList();
    }

    private static void slotsKeepTheList() {
        SideWords x = heardA("01", 1);
        x.keep(0);
        x.group(groupOf(1, 0x80, 100, 101), 1);
        x.keep(1);
        x.again(0);
        due.is("an empty LIST", x.told(4), 0);
        x.group(groupOf(1, 0x80, 7, 8), 2);
        x.again(1);
        due.is("THE LIST", x.list(0, false), 100);
        due.is("THE LIST", x.list(1, false), 101);
        due.is("times", x.list(1, true), 1);
    }

    private static void slotsKeepTheLastHit() {
        SideWords x = heardA("01", 0);
        x.hear(0, 128, 0);
        x.keep(0);
        x.reset();
        x.keep(1);
        x.again(0);
        due.is("the LAST HIT is kept", x.hear(1, 3, 0), 1);
        x.again(1);
        due.is("that there is none is kept", x.hear(1, 3, 0), 0);
        x.again(0);
        x.bits(13, x.word(1, 3) >> 1);
        x.keep(1);
        x.again(1);
        due.is("SINCE is kept", x.bits(1, x.word(1, 3) & 1), 1);
    }
}
