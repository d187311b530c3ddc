import java.util.ArrayList;
import java.util.List;
import java.util.function.ToLongFunction;

/** Parts 4 and 5 of the document's Terms: one test for each sentence that names an edge. */
final class EdgesOfPlainWords extends Made {
    private EdgesOfPlainWords() {
    }

    static void run(Edges edges) {
        morePlainly(edges);
        morePlainlyAsked(edges);
        refusals(edges);
    }

    // ---- part 4

    private static void morePlainly(Edges edges) {
        edges.of(HEAD, "COUNTS are GOOD, MENDED, SPOILT, LOSSES (how often SYNC was LOST; RESET without SYNC is "
            + "none).", EdgesOfPlainWords::losses);
        edges.of(HEAD, "By the HIT that brings SYNC alone one BLOCK is GOOD, the LAST HIT ahead of it is no BLOCK.",
            EdgesOfPlainWords::lastHitIsNoBlock);
        edges.of(HEAD, "THE WINDOW, HEARD go on when SYNC is LOST; a HIT needs 14 bits behind that. SINCE goes on "
            + "while there is SYNC.", EdgesOfPlainWords::goesOnWhenLost);
        edges.of(HEAD, "PARTS that were mended count like others.", EdgesOfPlainWords::mendedPartsCount);
        edges.of(HEAD, "A PART 0 of a new GROUP clears what the GROUP ahead of it left; a GROUP that begins in the "
            + "midst (SYNC by k 1 .. 3) has no PARTS ahead.", EdgesOfPlainWords::beginsInTheMidst);
        edges.of(HEAD, "THE PROGRAM, NAME, THE CLOCK, THE LIST, FLAG, CANDIDATES stay when SYNC is LOST.",
            EdgesOfPlainWords::staysWhenLost);
        edges.of(HEAD, "Where two BURSTS have one REST, a BLOCK with it is SPOILT.", EdgesOfPlainWords::twoBursts);
        edges.of(HEAD, "THE LIST in ORDER: by how often they were HEARD OF, the most first, of like ones the least "
            + "STATION.", EdgesOfPlainWords::listInOrder);
        edges.of(HEAD, "BURSTS of LONG 1 are single bits; of LONG 3: one bit, two or three side by side, two with one "
            + "between. SURE is by RESTS alone.", EdgesOfPlainWords::shapesOfBursts);
        edges.of(HEAD, "The LAST HIT stays while there is SYNC.", EdgesOfPlainWords::lastHitWithSync);
    }

    private static void losses() {
        SideWords x = heardA("01", 0);
        x.reset();
        due.is("RESET without SYNC", x.about(12), 0);
        x.group(A, 1);
        x.reset();
        due.is("RESET with SYNC", x.about(12), 1);
        x.reset();
        due.is("RESET without SYNC", x.about(12), 1);
        x.group(A, 1);
        x.hear(0, 0, SPOIL);
        due.is("by HOLD", x.about(12), 2);
        due.is("GOOD", x.about(9), 6);
        due.is("MENDED", x.about(10), 0);
        due.is("SPOILT", x.about(11), 1);
    }

    private static void lastHitIsNoBlock() {
        SideWords x = heardA("01", 0);
        x.hear(0, 128, 0);
        due.is("a HIT alone", x.about(9), 0);
        due.is("no PART of it", x.told(6), 0);
        x.hear(1, 3, 0);
        due.is("by the second HIT", x.about(9), 1);
        due.is("no PART of the first", x.part(0), NONE);
        due.is("a GROUP with its first WORD as LAST HIT", heardA("01", 0).group(A, 1), 3);
    }

    private static void goesOnWhenLost() {
        SideWords x = heardA("01", 1);
        x.hear(0, 128, SPOIL);
        due.is("lost", x.about(12), 1);
        due.is("THE WINDOW", x.about(4), x.word(0, 128) ^ SPOIL);
        due.is("HEARD", x.about(3), 70);
        x.bits(1, 1);
        due.is("THE WINDOW goes on", x.about(4), ((x.word(0, 128) ^ SPOIL) << 1 & 16383) | 1);
        due.is("HEARD goes on", x.about(3), 71);
        x = heardA("01", 1);
        x.reset();
        due.is("14 bits behind a RESET", x.hear(0, 128, 0), 0);
        due.is("and 14 more", x.hear(1, 3, 0), 1);
    }

    private static void mendedPartsCount() {
        SideWords x = heardA("19", 3);
        for (int i = 0; i < 2; i++) {
            x.hear(0, 77, 1);
            x.hear(1, 0x40, 2);
            x.hear(2, 13, 4);
            x.hear(3, 14, 8);
        }
        due.is("MENDED", x.about(10), 8);
        due.is("THE PROGRAM", x.told(0), 77);
        due.is("THE CLOCK", x.told(2), 794);
        due.is("PARTS", x.told(6), 15);
    }

    private static void beginsInTheMidst() {
        for (int k = 1; k <= 3; k++) {
            SideWords x = heardA("01", 1);
            x.reset();
            String row = quietRow(new int[] {k - 1, k}, new int[] {0, 0});
            due.is("SYNC by " + k, hearRow(x, row), 1);
            due.is("no PARTS ahead", x.told(6), 1 << k);
            for (int next = k + 1; next < 4; next++) {
                x.hear(next, 9, 0);
            }
            due.is("PARTS from there on", x.told(6), 16 - (1 << k));
            due.is("no CANDIDATE by it", x.told(1), NONE);
            x.hear(0, 9, 0);
            due.is("a new PART 0 clears them", x.told(6), 1);
        }
    }

    private static void staysWhenLost() {
        for (int way = 0; way < 2; way++) {
            SideWords x = heardA("01", 3);
            x.group(groupOf(5, 0xC1, 0, 0), 1);
            x.group(groupOf(6, 0x40, 7, 8), 1);
            x.group(groupOf(6, 0x80, 7, 8), 1);
            x.group(groupOf(9, 0x01, 7, 8), 2);
            x.group(groupOf(8, 0x02, 7, 8), 1);
            int[] told = {9, 8, 428, 1, 2, 2};
            due.is("lost", way == 0 ? x.hear(0, 0, SPOIL) : 1 - x.reset(), 0);
            for (int what = 0; what < told.length; what++) {
                due.is("told(" + what + ")", x.told(what), told[what]);
            }
            due.is("NAME", x.name(1, false), 7 * 256 + 8);
            due.is("a CANDIDATE", x.name(2, true), 7 * 256 + 8);
            due.is("THE LIST", x.list(1, false), 8);
            due.is("PARTS do not", x.told(6), 0);
        }
    }

    private static void twoBursts() {
        // By x^6 + x + 1 bit 6 has the REST of bits 0 and 1: by LONG 1 it is SURE, by LONG 2 it is not.
        SideWords one = heardA("19", 1);
        one.hear(0, 200, 64);
        due.is("LONG 1: MENDED", one.about(10), 1);
        SideWords two = heardA("29", 1);
        two.hear(0, 200, 64);
        due.is("LONG 2: SPOILT", two.about(11), 1);
        two.hear(1, 200, 3);
        due.is("LONG 2: so is the other", two.about(11), 2);
        due.is("MENDED none", two.about(10), 0);
        // Bits i and i + 6 have one REST by x^6 + 1, so none is SURE.
        SideWords none = told("S010001020319");
        for (int bit = 0; bit < 14; bit++) {
            due.is("bit " + bit, none.mended(0, 1 << bit), NONE);
        }
    }

    private static void listInOrder() {
        SideWords x = heardA("09", 1);
        x.group(groupOf(1, 0x80, 200, 5), 1);
        x.group(groupOf(1, 0x80, 100, 7), 1);
        x.group(groupOf(1, 0x80, 7, 204), 1);
        x.group(groupOf(1, 0x80, 204, 1), 1);
        int[] stations = {7, 204, 1, 5, 100, 200};
        int[] times = {2, 2, 1, 1, 1, 1};
        for (int i = 0; i < stations.length; i++) {
            due.is("STATION " + i, x.list(i, false), stations[i]);
            due.is("times " + i, x.list(i, true), times[i]);
        }
        x.group(groupOf(1, 0x80, 200, 200), 1);
        due.is("now the most", x.list(0, false), 200);
    }

    private static void shapesOfBursts() {
        int[] counts = {0, 14, 27, 51};
        for (int longest = 0; longest <= 3; longest++) {
            due.is("LONG " + longest, heardA(longest + "1", 0).about(16), counts[longest]);
        }
        int[] shapes = {1, 3, 7, 5};
        int[] fromLong = {1, 2, 3, 3};
        // G 39 leaves SURE ones of each shape.
        for (int longest = 0; longest <= 3; longest++) {
            for (int i = 0; i < shapes.length; i++) {
                int mended = 0;
                for (int up = 0; shapes[i] << up <= 16383; up++) {
                    SideWords x = told("S3910203040" + longest + "1");
                    mended += x.mended(2, x.word(2, 90) ^ shapes[i] << up) == 90 ? 1 : 0;
                }
                due.holds("shape " + shapes[i] + " by LONG " + longest, mended > 0 == longest >= fromLong[i]);
            }
        }
    }

    private static void lastHitWithSync() {
        // Nothing shows it but that a loss, not SYNC, ends it: undone, all is as it was.
        SideWords x = heardA("01", 0);
        x.hear(0, 128, 0);
        x.hear(1, 3, 0);
        due.is("SYNC", x.about(5), 1);
        x.undo();
        due.is("the LAST HIT is there", x.hear(1, 3, 0), 1);
        x.reset();
        due.is("lost: it is gone", x.hear(2, 129, 0), 0);
    }

    private static void morePlainlyAsked(Edges edges) {
        edges.of(HEAD, "HOLD is met by SPOILT ones alone (what is MENDED leaves BADS).",
            EdgesOfPlainWords::holdBySpoilt);
        edges.of(HEAD, "KIND 2: PARTS 2, 3 each by itself; KIND 3 looks at FLAG alone.",
            EdgesOfPlainWords::eachByItself);
        edges.of(HEAD, "NEEDS looks behind whole GROUPS (0: now).", EdgesOfPlainWords::behindWholeGroups);
        edges.of(HEAD, "FLIPS: the same comes for each d; n 0: one set, GOOD.", EdgesOfPlainWords::flipsOfNone);
        edges.of(HEAD, "SLIPS: the 14 bits that begin i bits behind the first bit.", EdgesOfPlainWords::slipsBegin);
        edges.of(HEAD, "JUDGED 5, 6: what is not there is never so.", EdgesOfPlainWords::neverSo);
        edges.of(HEAD, "RESET without SYNC is an ACT, too.", EdgesOfPlainWords::resetIsAnAct);
        edges.of(HEAD, "DRAWN: bit 13 is the one that is HEARD first.", EdgesOfAsking::drawnByHand);
        edges.of(HEAD, "THE TEXT, SEEN, THE SEED are not undone or kept; a station() that is LATE changes nothing.",
            EdgesOfPlainWords::notUndoneOrKept);
    }

    private static void holdBySpoilt() {
        SideWords x = heardA("13", 1);
        for (int i = 0; i < 40; i++) {
            due.is("MENDED ones hold SYNC", x.hear(i & 3, 9, 1 << i % 14), 1);
            due.is("BADS", x.about(8), 0);
        }
        x.hear(0, 9, SPOIL);
        x.hear(1, 9, SPOIL);
        for (int i = 2; i < 42; i++) {
            due.is("MENDED ones hold SYNC", x.hear(i & 3, 9, 1 << i % 14), 1);
            due.is("and leave BADS", x.about(8), 2);
        }
        due.is("one more SPOILT", x.hear(2, 9, SPOIL), 0);
    }

    private static void eachByItself() {
        SideWords x = heardA("09", 1);
        x.group(groupOf(1, 0x80, 0, 30), 1);
        due.is("PART 3 alone", x.list(0, false), 30);
        x.group(groupOf(1, 0x80, 20, 205), 1);
        due.is("PART 2 alone", x.list(0, false), 20);
        x.group(groupOf(1, 0x80, 40, 40), 1);
        due.is("both alike", x.list(0, true), 2);
        x.hear(0, 1, 0);
        x.hear(1, 0xC1, 0);
        x.hear(2, 1, SPOIL);
        x.hear(3, 1, SPOIL);
        due.is("KIND 3 without PARTS 2 and 3", x.told(3), 1);
        x.group(groupOf(1, 0xC0, 50, 51), 1);
        due.is("KIND 3 leaves THE LIST", x.told(4), 3);
        due.is("and THE CLOCK", x.told(2), NONE);
    }

    private static void behindWholeGroups() {
        int between = 0;
        for (int i = 0; i < 4000; i++) {
            int group = i * 715827883;
            SideWords y = behindSome(BUSY, i);
            boolean ever = false;
            for (int k = 0; k < 4; k++) {
                int word = y.word(k, byteOf(group, k));
                for (int bit = 13; bit >= 0; bit--) {
                    ever |= y.bits(1, word >> bit & 1) == 1;
                }
            }
            if (ever && y.about(5) == 0) {
                between++;
                due.holds("SYNC that ends within a GROUP does not count", behindSome(BUSY, i).needs(group) != 1);
            }
        }
        due.holds("such GROUPS came", between > 3);
        due.is("now", heardA("01", 1).needs(0), 0);
    }

    private static void flipsOfNone() {
        for (int longest = 0; longest <= 3; longest++) {
            SideWords x = heardA(longest + "1", 0);
            int[] want = {1, 0, 0, 0};
            for (int what = 0; what <= 3; what++) {
                due.is("flips(0, " + what + ")", x.flips(0, what), want[what]);
            }
        }
        int[] ds = {0, 1, 128, 255};
        for (int d : ds) {
            SideWords x = heardA("21", 0);
            int mended = 0;
            int spoilt = 0;
            for (int bit = 0; bit < 14; bit++) {
                int data = x.mended(1, x.word(1, d) ^ 1 << bit);
                mended += data == d ? 1 : 0;
                spoilt += data == NONE ? 1 : 0;
            }
            due.is("the same for d " + d, x.flips(1, 1), mended);
            due.is("the same for d " + d, x.flips(1, 3), spoilt);
        }
    }

    private static void slipsBegin() {
        for (int i = 1; i <= 13; i++) {
            boolean found = false;
            for (int v = 0; v < 4096 && !found; v++) {
                SideWords x = heardA("01", 0);
                int d = v & 255;
                int e = v * 3 & 255;
                boolean hit = hitByHand((wordByHand(0, d) << 14 | wordByHand(1, e)) >> (14 - i) & 16383) != NONE;
                due.is("bit " + i + " of slips(0, " + d + ", " + e + ")", x.slips(0, d, e) >> i & 1, hit ? 1 : 0);
                found = hit;
            }
            due.holds("one at " + i, found);
        }
    }

    private static void neverSo() {
        for (int d = 0; d <= 999; d++) {
            due.is("THE PROGRAM", heardA("01", 2).judge(1, 60000 + d), 0);
            due.is("PART 0", heardA("01", 1).judge(1, 50000 + d), 0);
        }
        due.is("of a new object", new SideWords().judge(1, 60000L), 0);
        due.is("of a new object", new SideWords().judge(1, 50000L), 0);
        due.is("THE PROGRAM once it is there", heardA("01", 3).judge(1, 60128L), NONE);
        due.is("PART 0 once it is there", heardA("01", 2).judge(1, 50128L), NONE);
    }

    private static void resetIsAnAct() {
        SideWords x = heardA("01", 0);
        x.hear(0, 128, 0);
        due.is("without SYNC", x.reset(), 0);
        due.is("ACTS", x.about(13), 2);
        due.is("undone", x.undo(), 1);
        due.is("the LAST HIT is there again", x.hear(1, 3, 0), 1);
    }

    private static void notUndoneOrKept() {
        SideWords x = heardA("01", 1);
        x.keep(0);
        x.write('x');
        x.see(A, 0, 1);
        x.seed(7);
        x.undo();
        due.is("THE TEXT", x.about(15), 14);
        due.is("SEEN", x.about(14), 1);
        x.again(0);
        due.is("THE TEXT", x.about(15), 14);
        due.is("SEEN", x.about(14), 1);
        due.is("THE SEED", x.seed(8), 7);
        x.group(A, 2);
        x.undo();
        due.is("THE SEED", x.seed(8), 8);
        x.group(A, 2);
        String was = look(x);
        due.is("a STATION that is too long", x.station(), LATE);
        same("nothing is changed", look(x), was);
        due.is("ACTS can be undone still", x.undo(), 0);
        due.is("what was kept is there still", x.again(0), 56);
    }

    // ---- part 5

    private static void refusals(Edges edges) {
        edges.of(HEAD, "REFUSALS, of several the first that a call names (in just that row): UNKNOWN -1 (there is no "
            + "such OFFSET, PLACE, SLOT), BAD -2, LATE -3, FULL -4.", EdgesOfPlainWords::firstRefusal);
        edges.of(HEAD, "What is refused changes nothing.", EdgesOfPlainWords::refusedChangesNothing);
        edges.of(HEAD, "NONE is -9.", EdgesOfPlainWords::none);
        edges.of(HEAD, "FRACTIONS are told above (upper = true; less than 0, if they are), below, in least terms.",
            EdgesOfPlainWords::leastTerms);
        edges.of(HEAD, "Sets are told as bits.", EdgesOfPlainWords::setsAsBits);
    }

    private static void firstRefusal() {
        due.is("UNKNOWN", SideWords.UNKNOWN, -1);
        due.is("BAD", SideWords.BAD, -2);
        due.is("LATE", SideWords.LATE, -3);
        due.is("FULL", SideWords.FULL, -4);
        SideWords x = full();
        due.is("write: BAD ahead of FULL", x.write(256), BAD);
        due.is("write: FULL", x.write(255), FULL);
        due.is("see: BAD ahead of FULL", x.see(A, 3, 0), BAD);
        due.is("see: BAD ahead of FULL", x.see(A, 0, 10), BAD);
        due.is("see: FULL", x.see(A, 2, 9), FULL);
        due.is("word: UNKNOWN ahead of BAD", x.word(4, 256), UNKNOWN);
        due.is("rest: UNKNOWN ahead of BAD", x.rest(-1, 16384), UNKNOWN);
        due.is("mended: UNKNOWN ahead of BAD", x.mended(4, -1), UNKNOWN);
        due.is("slips: UNKNOWN ahead of BAD", x.slips(4, 256, 256), UNKNOWN);
        due.is("hear: UNKNOWN ahead of BAD", x.hear(-1, -1, -1), UNKNOWN);
        due.is("again: UNKNOWN ahead of LATE", new SideWords().again(2), UNKNOWN);
        due.is("again: LATE", new SideWords().again(1), LATE);
    }

    /** A TEXT of 40 letters, 4 SEEN, SLOT 0 kept, ACTS, and something of all that GROUPS tell. */
    private static SideWords full() {
        SideWords x = heardA("13", 3);
        spell(x, "x".repeat(27));
        x.group(groupOf(5, 0x40, 7, 8), 1);
        x.group(groupOf(5, 0x80, 7, 8), 1);
        x.keep(0);
        x.bits(4, 9);
        for (int i = 0; i < 4; i++) {
            x.see(A, 0, 3);
        }
        x.seed(1234567);
        return x;
    }

    private static List<ToLongFunction<SideWords>> refusedCalls() {
        List<ToLongFunction<SideWords>> calls = new ArrayList<>();
        int[] wrong = {-1, Integer.MIN_VALUE, Integer.MAX_VALUE, 20000};
        for (int no : wrong) {
            calls.add(x -> x.write(no));
            calls.add(x -> x.about(no));
            calls.add(x -> x.offset(no));
            calls.add(x -> x.told(no));
            calls.add(x -> x.part(no));
            calls.add(x -> x.name(no, true));
            calls.add(x -> x.list(no, true));
            calls.add(x -> x.word(no, 0));
            calls.add(x -> x.word(0, no));
            calls.add(x -> x.rest(no, 0));
            calls.add(x -> x.rest(0, no));
            calls.add(x -> x.mended(no, 0));
            calls.add(x -> x.mended(0, no));
            calls.add(x -> x.flips(no, 0));
            calls.add(x -> x.flips(0, no));
            calls.add(x -> x.slips(no, 0, 0));
            calls.add(x -> x.slips(0, no, 0));
            calls.add(x -> x.slips(0, 0, no));
            calls.add(x -> x.bits(no, 0));
            calls.add(x -> x.bits(14, no));
            calls.add(x -> x.hear(no, 0, 0));
            calls.add(x -> x.hear(0, no, 0));
            calls.add(x -> x.hear(0, 0, no));
            calls.add(x -> x.group(A, no));
            calls.add(x -> x.ahead(A, no, 3));
            calls.add(x -> x.ahead(A, 0, no));
            calls.add(x -> x.judge(no, 20000L));
            calls.add(x -> x.judge(3, -1L - (no & 7)));
            calls.add(x -> x.judge(1, 100000L + (no & 7)));
            calls.add(x -> x.see(A, no, 0));
            calls.add(x -> x.see(A, 0, no));
            calls.add(x -> x.share(A, no, true));
            calls.add(x -> x.chance(A, no, 5, true));
            calls.add(x -> x.chance(A, 1, no, true));
            calls.add(x -> x.drawn(no));
            calls.add(x -> x.keep(no));
            calls.add(x -> x.again(no));
        }
        calls.add(x -> x.write('S'));
        calls.add(x -> x.see(A, 0, 0));
        calls.add(x -> x.again(1));
        calls.add(x -> x.station());
        return calls;
    }

    private static void refusedChangesNothing() {
        String wanted = all(full());
        int i = 0;
        for (ToLongFunction<SideWords> call : refusedCalls()) {
            SideWords x = full();
            long answer = call.applyAsLong(x);
            due.holds("call " + i + " is refused, " + answer, answer < 0);
            same("behind call " + i, all(x), wanted);
            i++;
        }
        SideWords x = full();
        x.again(0);
        String was = look(x);
        due.is("undo()", x.undo(), LATE);
        same("undo() without ACTS", look(x), was);
    }

    /** How all is, and how all was ahead of each ACT, and in SLOT 0. */
    private static String all(SideWords x) {
        StringBuilder told = new StringBuilder(look(x));
        while (x.undo() >= 0) {
            told.append(" / ").append(lookAtHeard(x));
        }
        return told.append(" / ").append(x.again(0)).append(lookAtHeard(x)).toString();
    }

    private static void none() {
        due.is("NONE", SideWords.NONE, -9);
        due.is("as an answer", new SideWords().part(0), -9);
    }

    private static void leastTerms() {
        // 0 in least terms is 0 by 1; a whole one is 1 by 1.
        due.is("0 above", new SideWords().share(0, 2, true), 0);
        due.is("0 below", new SideWords().share(0, 2, false), 1);
        due.is("never above", new SideWords().chance(0, 1, 5, true), 0);
        due.is("never below", new SideWords().chance(0, 1, 5, false), 1);
        due.is("always above", heardA("09", 1).chance(A, 2, 10, true), 1);
        due.is("always below", heardA("09", 1).chance(A, 2, 10, false), 1);
        // Lost just if four are turned one behind the other.
        due.is("1 - 0.5^4 above", heardA("04", 1).chance(A, 1, 5, true), 15);
        due.is("1 - 0.5^4 below", heardA("04", 1).chance(A, 1, 5, false), 16);
        int least = 0;
        for (int i = 0; i < 600; i++) {
            SideWords x = told("S636300010212");
            x.group(i * 715827883, 1);
            for (int word = 0; word < 4; word++) {
                int above = x.share(-1, word, true);
                int below = x.share(-1, word, false);
                due.holds("below is more than 0", below > 0);
                due.is("in least terms", gcd(above, below), 1);
                least = Math.min(least, above);
            }
        }
        due.holds("some are less than 0: " + least, least < 0);
    }

    private static void setsAsBits() {
        SideWords x = heardA("01", 2);
        due.is("PLACES", x.told(5), 8);
        due.is("PARTS", x.told(6), 15);
        due.is("all places of SLIPS", new SideWords().slips(0, 0, 0), 0x3FFE);
        due.is("all places of WHICH", x.which(), ALL_PLACES);
    }
}
