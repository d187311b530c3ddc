/** Each promise by itself. Numbers are worked out by hand from the document. */
public final class PromiseTests extends Made {
    private PromiseTests() {
    }

    public static void main(String[] args) {
        theStation();
        words();
        acts();
        asked();
        seenAndShared();
        slots();
        due.end();
    }

    // ---- promises 1 to 11

    private static void theStation() {
        newObject();
        writeAndWipe();
        fault();
        station();
        about();
        offset();
        toldPartName();
        candidatesAndFlag();
        clock();
        list();
    }

    private static void newObject() {
        due.about("promise 1");
        SideWords x = new SideWords();
        int[] want = {1, 0, 1, 0, 0, 0, NONE, NONE, NONE, 0, 0, 0, 0, 0, 0, 0, 0, 0};
        for (int what = 0; what < want.length; what++) {
            due.is("about(" + what + ")", x.about(what), want[what]);
        }
        int[] toldThen = {NONE, NONE, NONE, 0, 0, 0, 0};
        for (int what = 0; what < toldThen.length; what++) {
            due.is("told(" + what + ")", x.told(what), toldThen[what]);
        }
        for (int k = 0; k < 4; k++) {
            due.is("offset", x.offset(k), k);
            due.is("part", x.part(k), NONE);
            due.is("name", x.name(k, false), NONE);
            due.is("candidate", x.name(k, true), NONE);
        }
        due.is("undo()", x.undo(), LATE);
        due.is("seed(3)", x.seed(3), 0);
        due.is("again(0)", x.again(0), LATE);
        due.is("which()", x.which(), (1L << 56) - 1);
    }

    private static void writeAndWipe() {
        due.about("promises 2, 3");
        SideWords x = new SideWords();
        due.is("write(0)", x.write(0), 1);
        due.is("write(255)", x.write(255), 2);
        due.is("write(256)", x.write(256), BAD);
        for (int far : FAR) {
            due.is("write(" + far + ")", x.write(far), BAD);
        }
        due.is("about(15)", x.about(15), 2);
        for (int n = 3; n <= 40; n++) {
            due.is("write", x.write('S'), n);
        }
        due.is("write to a full text", x.write('S'), FULL);
        due.is("a bad letter is told first", x.write(256), BAD);
        due.is("wipe()", x.wipe(), 40);
        due.is("wipe()", x.wipe(), 0);
        due.is("write", x.write('S'), 1);
    }

    private static void fault() {
        due.about("promise 4");
        String[] faultsAndTexts = {"0 ", "0 s", "1 S", "2 S0", "1 S7", "1 S/", "1 S:", "3 S01", "2 S00", "2 S02",
            "3 S63", "2 S64", "2 S65", "2 S6A", "5 S0163", "4 S0164", "3 S017", "7 S010001", "6 S010000",
            "8 S01000100", "8 S01000101", "10 S016061626", "11 S0160616263", "10 S0160616262", "9 S01600061",
            "11 S01000102034", "12 S01000102033", "12 S010001020330", "-9 S010001020331", "-9 S010001020339",
            "13 S0100010203391", "2 S0200010203391", "13 S01000102033911111", "0 X0100010203391"};
        for (String both : faultsAndTexts) {
            int gap = both.indexOf(' ');
            due.is("fault of" + both.substring(gap), faultOf(both.substring(gap + 1)),
                Integer.parseInt(both.substring(0, gap)));
        }
        String good = "S450915336039";
        for (int at = 0; at < 13; at++) {
            due.is("a letter at " + at, faultOf(good.substring(0, at) + "x" + good.substring(at + 1)), at);
            due.is("a head of " + at, faultOf(good.substring(0, at)), at);
        }
        due.is("all of it", faultOf(good), NONE);
    }

    private static void station() {
        due.about("promise 5");
        SideWords x = heardA("39", 3);
        x.see(A, 0, 4);
        x.seed(77);
        x.keep(0);
        x.keep(1);
        x.wipe();
        due.is("station() without a text", x.station(), LATE);
        due.is("all is as it was", x.about(3), 168);
        due.is("all is as it was", x.about(13), 1);
        spell(x, "S450915336021");
        due.is("station()", x.station(), 45);
        int[] want = {45, 2, 1, 0, 0, 0, NONE, NONE, NONE, 0, 0, 0, 0, 0, 1, 13, 27};
        for (int what = 0; what < want.length; what++) {
            due.is("about(" + what + ")", x.about(what), want[what]);
        }
        due.is("told(0)", x.told(0), NONE);
        due.is("told(1)", x.told(1), NONE);
        due.is("told(5)", x.told(5), 0);
        due.is("told(6)", x.told(6), 0);
        due.is("name(3, true)", x.name(3, true), NONE);
        due.is("again(0)", x.again(0), LATE);
        due.is("again(1)", x.again(1), LATE);
        due.is("undo()", x.undo(), LATE);
        due.is("seed(0)", x.seed(0), 77);
        due.is("the same text is told again", x.station(), 45);
        x.write('1');
        due.is("a text that is too long", x.station(), LATE);
        due.is("nothing is changed", x.about(0), 45);
    }

    private static void about() {
        due.about("promise 6");
        SideWords x = heardA("39", 1);
        x.bits(5, 19);
        int[] want = {3, 3, 9, 61, 0, 1, 0, 5, 0, 3, 0, 0, 0, 2, 0, 13, 51};
        want[4] = (x.word(3, 133) << 5 | 19) & 16383;
        for (int what = 0; what < want.length; what++) {
            due.is("about(" + what + ")", x.about(what), want[what]);
        }
        due.is("about(18)", x.about(18), BAD);
        for (int far : FAR) {
            due.is("about(" + far + ")", x.about(far), BAD);
        }
        due.is("bursts of LONG 0", heardA("09", 0).about(16), 0);
        due.is("bursts of LONG 1", heardA("19", 0).about(16), 14);
        due.is("bursts of LONG 2", heardA("29", 0).about(16), 27);
        due.is("bursts of LONG 3", heardA("39", 0).about(16), 51);
        due.is("all single bits are sure", heardA("19", 0).about(17), 14);
        // By x^6 + 1 bits that are 6 apart have one REST, and each bit has such another one.
        due.is("none is sure by x^6 + 1", told("S010001020319").about(17), 0);
    }

    private static void offset() {
        due.about("promise 7");
        SideWords x = heardA("11", 0);
        for (int k = 0; k < 4; k++) {
            due.is("offset", x.offset(k), 10 * k + 10);
        }
        due.is("offset(4)", x.offset(4), UNKNOWN);
        for (int far : FAR) {
            due.is("offset(" + far + ")", x.offset(far), UNKNOWN);
        }
    }

    private static void toldPartName() {
        due.about("promises 8 to 10");
        SideWords x = heardA("01", 1);
        due.is("by SYNC no PARTS ahead of it", x.told(6), 14);
        due.is("part(0)", x.part(0), NONE);
        due.is("part(1)", x.part(1), 3);
        due.is("part(2)", x.part(2), 129);
        due.is("part(3)", x.part(3), 133);
        due.is("a PAIR once", x.name(3, false), NONE);
        due.is("a PAIR once", x.name(3, true), PAIR);
        due.is("told(1)", x.told(1), NONE);
        x.group(A, 1);
        due.is("told(5)", x.told(5), 8);
        due.is("a PAIR twice", x.name(3, false), PAIR);
        due.is("other PLACES", x.name(2, true), NONE);
        due.is("PART 0 once", x.told(0), NONE);
        due.is("PART 0 once", x.told(1), 128);
        due.is("told(6)", x.told(6), 15);
        x.group(A, 1);
        due.is("PART 0 twice", x.told(0), 128);
        x.hear(0, 7, 0);
        due.is("a new PART 0 clears the others", x.told(6), 1);
        due.is("told(7)", x.told(7), BAD);
        due.is("part(4)", x.part(4), UNKNOWN);
        due.is("name(4, true)", x.name(4, true), UNKNOWN);
        for (int far : FAR) {
            due.is("told(" + far + ")", x.told(far), BAD);
            due.is("part(" + far + ")", x.part(far), UNKNOWN);
            due.is("name(" + far + ", false)", x.name(far, false), UNKNOWN);
        }
    }

    private static void candidatesAndFlag() {
        due.about("promises 8, 10: what comes between");
        SideWords x = heardA("01", 3);
        x.group(groupOf(129, 3, 1, 2), 1);
        due.is("THE PROGRAM stays", x.told(0), 128);
        due.is("another CANDIDATE", x.told(1), 129);
        due.is("NAME stays", x.name(3, false), PAIR);
        due.is("another CANDIDATE of the PLACE", x.name(3, true), 258);
        x.group(groupOf(128, 0x3D, 1, 2), 2);
        due.is("LOW by 4 is the PLACE", x.name(1, false), 258);
        x.group(groupOf(128, 0xC2, 0, 0), 1);
        due.is("FLAG 0 as it was", x.told(5), 10);
        x.group(groupOf(128, 0xC1, 0, 0), 1);
        due.is("FLAG", x.told(3), 1);
        due.is("NAME is gone", x.told(5), 0);
        due.is("CANDIDATES are gone", x.name(3, true), NONE);
        due.is("THE PROGRAM is not", x.told(0), 128);
        x.group(A, 2);
        x.group(groupOf(128, 0xFF, 0, 0), 1);
        due.is("FLAG 1 as it was", x.told(5), 8);
        x.group(groupOf(128, 0xC0, 0, 0), 1);
        due.is("FLAG 0 again", x.told(3), 0);
        due.is("NAME is gone again", x.told(5), 0);
        x.group(A, 2);
        x.reset();
        due.is("NAME stays without SYNC", x.told(5), 8);
        due.is("PARTS do not", x.told(6), 0);
    }

    private static void clock() {
        due.about("promise 8: THE CLOCK");
        SideWords x = heardA("09", 1);
        x.group(groupOf(1, 0x40, 24, 0), 1);
        due.is("24 hours", x.told(2), NONE);
        x.group(groupOf(1, 0x40, 0, 60), 1);
        due.is("60 minutes", x.told(2), NONE);
        x.group(groupOf(1, 0x40, 0, 0), 1);
        due.is("midnight", x.told(2), 0);
        x.group(groupOf(1, 0x7F, 23, 59), 1);
        due.is("the last minute", x.told(2), 1439);
        x.hear(0, 1, 0);
        x.hear(1, 0x40, 0);
        x.hear(2, 5, 0);
        x.hear(3, 5, 16383);
        due.is("without PART 3", x.told(2), 1439);
    }

    private static void list() {
        due.about("promise 11");
        SideWords x = heardA("09", 1);
        x.group(groupOf(1, 0x80, 9, 7), 1);
        x.group(groupOf(1, 0x80, 0, 204), 1);
        x.group(groupOf(1, 0x80, 205, 9), 1);
        due.is("told(4)", x.told(4), 3);
        int[] stations = {9, 7, 204};
        int[] times = {2, 1, 1};
        for (int i = 0; i < 3; i++) {
            due.is("list(" + i + ", false)", x.list(i, false), stations[i]);
            due.is("list(" + i + ", true)", x.list(i, true), times[i]);
        }
        due.is("list(3, true)", x.list(3, true), NONE);
        for (int far : FAR) {
            due.is("list(" + far + ", false)", x.list(far, false), NONE);
        }
        x.hear(0, 1, 0);
        x.hear(1, 0x80, 0);
        x.hear(2, 30, 16383);
        x.hear(3, 30, 0);
        due.is("PART 3 by itself", x.told(4), 4);
        x.group(groupOf(1, 0x80, 31, 32), 1);
        x.group(groupOf(1, 0x80, 33, 34), 1);
        x.group(groupOf(1, 0x80, 35, 34), 1);
        due.is("never more than 8", x.told(4), 8);
        due.is("34 is heard of still", x.list(1, false), 34);
        due.is("the last one", x.list(7, false), 204);
        x.group(groupOf(1, 0x80, 204, 204), 9);
        due.is("now the first one", x.list(0, false), 204);
        due.is("by itself twice in a GROUP", x.list(0, true), 19);
        for (int i = 0; i < 5; i++) {
            x.group(groupOf(1, 0x80, 204, 204), 9);
        }
        due.is("99 at most", x.list(0, true), 99);
    }

    // ---- promises 12 to 17

    private static void words() {
        wordAndRest();
        mended();
        distanceAndFlips();
        slips();
    }

    private static void wordAndRest() {
        due.about("promises 12, 13");
        SideWords x = heardA("01", 0);
        // The rests of x^6, x^7, x^13 by x^6 + x + 1 are 3, 6 and 10.
        due.is("word(0, 1)", x.word(0, 1), 64 + (3 ^ 10));
        due.is("word(1, 2)", x.word(1, 2), 128 + (6 ^ 20));
        due.is("word(2, 128)", x.word(2, 128), 8192 + (10 ^ 30));
        due.is("word(3, 131)", x.word(3, 131), 64 * 131 + (3 ^ 6 ^ 10 ^ 40));
        due.is("word(0, 0)", x.word(0, 0), 10);
        due.is("rest(0, 8192)", x.rest(0, 8192), 10 ^ 10);
        due.is("rest(1, 8192)", x.rest(1, 8192), 10 ^ 20);
        due.is("rest(3, 0)", x.rest(3, 0), 40);
        due.is("rest(3, 63)", x.rest(3, 63), 63 ^ 40);
        int[][] refused = {{4, 0, UNKNOWN}, {-1, 0, UNKNOWN}, {4, 70000, UNKNOWN}, {0, -1, BAD}, {3, 16384, BAD},
            {0, Integer.MIN_VALUE, BAD}, {Integer.MIN_VALUE, -1, UNKNOWN}, {2, Integer.MAX_VALUE, BAD}};
        for (int[] row : refused) {
            due.is("word(" + row[0] + ", " + row[1] + ")", x.word(row[0], row[1]), row[2]);
            due.is("rest(" + row[0] + ", " + row[1] + ")", x.rest(row[0], row[1]), row[2]);
            due.is("mended(" + row[0] + ", " + row[1] + ")", x.mended(row[0], row[1]), row[2]);
        }
        due.is("word(0, 256)", x.word(0, 256), BAD);
        for (int k = 0; k < 4; k++) {
            for (int d = 0; d < 256; d++) {
                due.is("rest of a word", x.rest(k, x.word(k, d)), 0);
                due.is("data of a word", x.mended(k, x.word(k, d)), d);
            }
        }
    }

    private static void mended() {
        due.about("promise 14");
        SideWords none = heardA("01", 0);
        SideWords one = heardA("11", 0);
        SideWords three = heardA("31", 0);
        int w = one.word(2, 200);
        for (int bit = 0; bit < 14; bit++) {
            due.is("LONG 0 mends nothing", none.mended(2, w ^ 1 << bit), NONE);
            due.is("LONG 1 mends bit " + bit, one.mended(2, w ^ 1 << bit), 200);
        }
        // Bits 0 and 1 have the rest of bit 6: LONG 1 takes it for that one, by LONG 3 both can have been.
        due.is("two bits for one", one.mended(2, w ^ 3), 200 ^ 1);
        due.is("not sure", three.mended(2, w ^ 3), NONE);
        due.is("not sure", three.mended(2, w ^ 64), NONE);
    }

    private static void distanceAndFlips() {
        due.about("promises 15, 16");
        due.is("x^6 + 1", new SideWords().distance(), 2);
        // 1000011, that is x^6 + x + 1 itself, is a word of weight 3; no two bits have one rest.
        due.is("x^6 + x + 1", heardA("01", 0).distance(), 3);
        SideWords x = heardA("11", 0);
        int[] sets = {1, 14, 91, 364, 1001};
        for (int n = 0; n <= 4; n++) {
            int all = 0;
            for (int what = 0; what <= 3; what++) {
                all += x.flips(n, what);
            }
            due.is("all sets of " + n, all, sets[n]);
        }
        due.is("flips(0, 0)", x.flips(0, 0), 1);
        due.is("flips(1, 1)", x.flips(1, 1), 14);
        due.is("flips(2, 0)", x.flips(2, 0), 0);
        due.is("flips(2, 1)", x.flips(2, 1), 0);
        // Each word of weight 3 is hit by three pairs.
        due.is("flips(2, 2)", x.flips(2, 2), 3 * x.flips(3, 0));
        // x^6 + 1: bits i, i + 6 and i + 12 are alike, 2 * 3 + 4 pairs.
        due.is("flips(2, 0) by x^6 + 1", new SideWords().flips(2, 0), 10);
        due.is("without BURSTS", heardA("01", 0).flips(1, 3), 14);
        due.is("flips(5, 0)", x.flips(5, 0), BAD);
        due.is("flips(4, 4)", x.flips(4, 4), BAD);
        for (int far : FAR) {
            due.is("flips(" + far + ", 0)", x.flips(far, 0), BAD);
            due.is("flips(0, " + far + ")", x.flips(0, far), BAD);
        }
    }

    private static void slips() {
        due.about("promise 17");
        due.is("zeros", new SideWords().slips(0, 0, 0), 16382);
        SideWords x = heardA("01", 0);
        due.is("GROUP A", x.slips(0, 128, 3), 0);
        due.is("GROUP A", x.slips(1, 3, 129), 0);
        due.is("GROUP A", x.slips(2, 129, 133), 0);
        due.is("GROUP A, OFFSET 0 behind 3", x.slips(3, 133, 128), 0);
        int both = x.word(3, 17) << 14 | x.word(0, 99);
        int set = 0;
        for (int i = 1; i <= 13; i++) {
            for (int k = 0; k < 4; k++) {
                set |= x.rest(k, both >> (14 - i) & 16383) == 0 ? 1 << i : 0;
            }
        }
        due.is("slips(3, 17, 99)", x.slips(3, 17, 99), set);
        due.is("slips(4, 256, 0)", x.slips(4, 256, 0), UNKNOWN);
        due.is("slips(0, 256, 0)", x.slips(0, 256, 0), BAD);
        due.is("slips(0, 0, 256)", x.slips(0, 0, 256), BAD);
        for (int far : FAR) {
            due.is("slips", x.slips(far, 0, 0), UNKNOWN);
            due.is("slips", x.slips(0, far, 0), BAD);
            due.is("slips", x.slips(0, 0, far), BAD);
        }
    }

    // ---- promises 18 to 22

    private static void acts() {
        bits();
        syncFound();
        syncFarApart();
        syncHeldAndLost();
        hitsNeedFourteenBits();
        group();
        reset();
        undo();
    }

    private static void bits() {
        due.about("promise 18");
        SideWords x = heardA("01", 0);
        int[][] refused = {{0, 0}, {15, 0}, {3, 8}, {1, -1}, {14, 16384}, {Integer.MIN_VALUE, 0}, {32, 0}, {33, 1},
            {14, Integer.MIN_VALUE}, {Integer.MAX_VALUE, 0}, {5, Integer.MAX_VALUE}};
        for (int[] row : refused) {
            due.is("bits(" + row[0] + ", " + row[1] + ")", x.bits(row[0], row[1]), BAD);
        }
        due.is("nothing was HEARD", x.about(3) + x.about(13), 0);
        x.bits(3, 5);
        due.is("THE WINDOW", x.about(4), 5);
        x.bits(14, 16383);
        x.bits(2, 0);
        due.is("its lowest 14 bits", x.about(4), 16380);
        due.is("HEARD", x.about(3), 19);
        due.is("ACTS", x.about(13), 3);
        x = heardA("01", 0);
        due.is("a WORD by bits", x.bits(14, x.word(0, 128)), 0);
        due.is("half a WORD", x.bits(7, x.word(1, 3) >> 7), 0);
        due.is("all but its last bit", x.bits(6, (x.word(1, 3) & 127) >> 1), 0);
        due.is("its last bit brings SYNC", x.bits(1, x.word(1, 3) & 1), 1);
        due.is("PHASE", x.about(7), 0);
        due.is("DUE", x.about(6), 2);
    }

    private static void syncFound() {
        due.about("promise 19: SYNC found");
        SideWords x = heardA("01", 0);
        due.is("hear(0, 128, 0)", x.hear(0, 128, 0), 0);
        due.is("the LAST HIT is no BLOCK", x.about(9), 0);
        due.is("hear(1, 3, 0)", x.hear(1, 3, 0), 1);
        due.is("GOOD", x.about(9), 1);
        due.is("PARTS", x.told(6), 2);
        int[][] refused = {{4, 256, 0, UNKNOWN}, {-1, 0, 0, UNKNOWN}, {0, 256, 0, BAD}, {0, -1, 0, BAD},
            {0, 0, -1, BAD}, {0, 0, 16384, BAD}, {Integer.MIN_VALUE, 0, 0, UNKNOWN}, {3, 0, Integer.MIN_VALUE, BAD}};
        for (int[] row : refused) {
            due.is("hear refused", x.hear(row[0], row[1], row[2]), row[3]);
        }
        due.is("nothing came of these", x.about(3), 28);
        due.is("nothing came of these", x.about(13), 2);
        x = heardA("01", 0);
        x.hear(0, 128, 0);
        due.is("an OFFSET that does not fit", x.hear(0, 128, 0), 0);
        x = heardA("01", 0);
        x.bits(13, x.word(0, 128) >> 1);
        due.is("a HIT needs 14 bits", x.about(5), 0);
    }

    /** GROUP A with WORDS spoilt between the two HITS that fit, if only no false HIT comes between. */
    private static void syncFarApart() {
        due.about("SYNC by HITS 14 m apart");
        for (int m = 1; m <= 5; m++) {
            int fill = quietWord(m);
            SideWords x = heardA("01", 0);
            x.hear(0, 128, 0);
            for (int i = 1; i < m; i++) {
                x.bits(14, fill);
            }
            int found = x.bits(14, x.word(m & 3, 3));
            due.is("m " + m, found, m <= 4 ? 1 : 0);
        }
    }

    /** 14 bits that, m - 1 times between THE WORD of 128 and that of 3, bring no HIT of their own. */
    private static int quietWord(int m) {
        for (int w = 0; w <= 16383; w++) {
            SideWords x = heardA("01", 0);
            String bits = binary(x.word(0, 128)) + binary(w).repeat(m - 1) + binary(x.word(m & 3, 3));
            boolean quiet = true;
            for (int i = 1; i < 14 * m && quiet; i++) {
                int window = Integer.parseInt(bits.substring(i, i + 14), 2);
                for (int k = 0; k < 4; k++) {
                    quiet &= x.rest(k, window) != 0;
                }
            }
            if (quiet) {
                return w;
            }
        }
        due.holds("a quiet word for " + m, false);
        return 0;
    }

    private static void syncHeldAndLost() {
        due.about("promise 19: held and lost");
        SideWords x = heardA("13", 1);
        due.is("one bit is mended", x.hear(0, 128, 64), 1);
        due.is("MENDED", x.about(10), 1);
        due.is("PART 0", x.part(0), 128);
        due.is("spoilt", x.hear(1, 3, badMask(x)), 1);
        due.is("SPOILT", x.about(11), 1);
        due.is("BADS", x.about(8), 1);
        due.is("PART 1", x.part(1), NONE);
        x.hear(2, 129, 1);
        due.is("what is mended leaves BADS", x.about(8), 1);
        x.hear(3, 133, badMask(x));
        due.is("BADS", x.about(8), 2);
        x.hear(0, 128, 0);
        due.is("a GOOD one ends BADS", x.about(8), 0);
        x.hear(1, 3, badMask(x));
        x.hear(2, 129, badMask(x));
        due.is("PARTS", x.told(6), 1);
        due.is("HOLD is met", x.hear(3, 133, badMask(x)), 0);
        due.is("LOSSES", x.about(12), 1);
        due.is("PARTS are gone", x.told(6), 0);
        due.is("DUE", x.about(6), NONE);
        due.is("PHASE", x.about(7), NONE);
        due.is("BADS", x.about(8), NONE);
        due.is("HEARD goes on", x.about(3), 56 + 8 * 14);
        due.is("no LAST HIT", x.hear(0, 128, 0), 0);
        due.is("but now", x.hear(1, 3, 0), 1);
        x = heardA("01", 1);
        due.is("HOLD 1", x.hear(0, 128, 1), 0);
        x.bits(13, x.word(0, 128) & 8191);
        due.is("13 bits behind a loss are too few", x.hear(1, 3, 0), 0);
    }

    /** Behind 13 bits THE WINDOW can have REST 0 already, by a bit ahead of them: that is no HIT yet. */
    private static void hitsNeedFourteenBits() {
        due.about("SINCE");
        for (int way = 0; way < 3; way++) {
            int tried = 0;
            for (int d = 0; d < 128; d++) {
                for (int e = 0; e < 256; e++) {
                    SideWords x = heardA("01", 0);
                    if (x.slips(0, d, e) != 0) {
                        continue;
                    }
                    tried++;
                    leaveZeroBit(x, way);
                    x.bits(13, x.word(0, d));
                    due.is("13 bits and a WORD, way " + way, x.hear(1, e, 0), 0);
                }
            }
            due.holds("some were tried", tried > 100);
        }
    }

    /** SINCE is 0 and the last bit was 0: of a new station (way 0), by RESET (1), by a loss (2). */
    private static void leaveZeroBit(SideWords x, int way) {
        if (way == 1) {
            x.bits(1, 0);
            x.reset();
        }
        if (way == 2) {
            x.group(A, 1);
            int w = x.word(0, 128);
            due.is("lost", x.bits(14, w ^ ((w & 1) == 1 ? 1 : 2)), 0);
        }
    }

    /** Two bits that LONG 1 does not mend. */
    private static int badMask(SideWords x) {
        for (int mask = 3; mask < 16384; mask++) {
            if (x.mended(0, x.word(0, 0) ^ mask) == NONE && Integer.bitCount(mask) == 2) {
                return mask;
            }
        }
        return 0;
    }

    private static void group() {
        due.about("promise 20");
        SideWords x = heardA("11", 0);
        due.is("by the first one", x.group(A, 1), 3);
        due.is("by the next ones", x.group(A, 9), 36);
        x.hear(0, 128, 1);
        x.hear(1, 3, 1);
        x.hear(2, 129, 1);
        x.hear(3, 133, 1);
        due.is("MENDED count, too", x.about(10), 4);
        due.is("GOOD and MENDED are told as more", x.group(A, 1), 4);
        int acts = x.about(13);
        due.is("group(A, 0)", x.group(A, 0), BAD);
        due.is("group(A, 10)", x.group(A, 10), BAD);
        for (int far : FAR) {
            due.is("group(A, " + far + ")", x.group(A, far), BAD);
        }
        due.is("no ACTS", x.about(13), acts);
        due.is("HEARD", x.about(3), 56 * 12);
        x = heardA("01", 2);
        x.group(groupOf(255, 3, 254, 253), 1);
        due.is("bytes of 128 and more", x.part(0), 255);
        due.is("the last byte", x.part(3), 253);
        // A slip of one bit: every WORD comes one bit late, so all is counted by what the class says of each.
        x = heardA("19", 1);
        x.bits(1, 0);
        int was = x.about(9) + x.about(10);
        int more = x.group(A, 1);
        due.is("GOOD and MENDED together", more, x.about(9) + x.about(10) - was);
    }

    private static void reset() {
        due.about("promise 21");
        SideWords x = heardA("01", 1);
        due.is("with SYNC", x.reset(), 1);
        due.is("LOSSES", x.about(12), 1);
        due.is("SYNC", x.about(5), 0);
        due.is("PARTS", x.told(6), 0);
        due.is("without", x.reset(), 0);
        due.is("that is no loss", x.about(12), 1);
        due.is("but an ACT", x.about(13), 3);
        x.hear(0, 128, 0);
        x.reset();
        due.is("the LAST HIT is gone", x.hear(1, 3, 0), 0);
        x = heardA("01", 0);
        x.hear(0, 128, 0);
        x.reset();
        x.bits(13, x.word(1, 3) >> 1);
        x.reset();
        due.is("SINCE is 0", x.bits(1, x.word(1, 3) & 1), 0);
        due.is("no HIT was taken", x.hear(2, 129, 0), 0);
    }

    private static void undo() {
        due.about("promise 22");
        SideWords x = heardA("12", 1);
        x.seed(5);
        x.see(A, 0, 0);
        x.group(A, 2);
        x.hear(0, 128, 3);
        x.bits(3, 1);
        x.reset();
        x.write('x');
        due.is("undo()", x.undo(), 4);
        due.is("SYNC again", x.about(5), 1);
        due.is("PHASE", x.about(7), 3);
        due.is("undo()", x.undo(), 3);
        due.is("undo()", x.undo(), 2);
        due.is("HEARD", x.about(3), 168);
        due.is("PROGRAM", x.told(0), 128);
        due.is("undo()", x.undo(), 1);
        due.is("PROGRAM", x.told(0), NONE);
        due.is("NAME", x.told(5), 0);
        due.is("undo()", x.undo(), 0);
        due.is("undo()", x.undo(), LATE);
        due.is("HEARD", x.about(3), 0);
        due.is("THE TEXT is not undone", x.about(15), 14);
        due.is("SEEN is not", x.about(14), 1);
        due.is("THE SEED is not", x.seed(0), 5);
        for (int i = 1; i <= 16; i++) {
            x.bits(1, i & 1);
            due.is("ACTS", x.about(13), Math.min(i, 14));
        }
        for (int left = 13; left >= 0; left--) {
            due.is("undo()", x.undo(), left);
        }
        due.is("the first ones are forgotten", x.undo(), LATE);
        due.is("HEARD", x.about(3), 2);
    }

    // ---- promises 23 to 25

    private static void asked() {
        ahead();
        needs();
        judge();
        judgeForms();
    }

    private static void ahead() {
        due.about("promise 23");
        SideWords x = heardA("01", 0);
        SideWords later = heardA("01", 3);
        for (int what = 3; what <= 12; what++) {
            due.is("ahead(A, 3, " + what + ")", x.ahead(A, 3, what), later.about(what));
            due.is("ahead(A, 0, " + what + ")", x.ahead(A, 0, what), x.about(what));
        }
        due.is("ahead(A, 9, 9)", x.ahead(A, 9, 9), 35);
        due.is("nothing is changed", x.about(3) + x.about(13), 0);
        int[][] refused = {{10, 3}, {-1, 3}, {0, 2}, {0, 13}, {Integer.MIN_VALUE, 3}, {3, Integer.MIN_VALUE},
            {Integer.MAX_VALUE, 3}, {3, Integer.MAX_VALUE}};
        for (int[] row : refused) {
            due.is("ahead(A, " + row[0] + ", " + row[1] + ")", x.ahead(A, row[0], row[1]), BAD);
        }
    }

    private static void needs() {
        due.about("promise 24");
        SideWords x = heardA("01", 0);
        due.is("one is enough", x.needs(A), 1);
        due.is("nothing is changed", x.about(3), 0);
        x.group(A, 1);
        due.is("none is needed", x.needs(A), 0);
        due.is("never", new SideWords().needs(0), NONE);
        SideWords y = told("S270317294223");
        int most = 0;
        for (int group = 0; group < 4000; group++) {
            int n = y.needs(group * 715827883);
            for (int i = 0; i <= 9 && i <= n; i++) {
                due.is("SYNC behind " + i, y.ahead(group * 715827883, i, 5), i == n ? 1 : 0);
            }
            most = Math.max(most, n);
        }
        due.holds("some need two", most >= 2);
    }

    private static void judge() {
        due.about("promise 25");
        SideWords x = heardA("01", 0);
        due.is("two WORDS bring SYNC", x.judge(3, 101281100331000L), NONE);
        due.is("one does not", x.judge(2, 1012831000L), 1);
        due.is("one does not", x.judge(2, 1012830000L), NONE);
        due.is("PART 1 is 3", x.judge(3, 101281100351003L), NONE);
        due.is("PART 1 is not 4", x.judge(3, 101281100351004L), 2);
        due.is("PART 0 is not there", x.judge(3, 101281100350128L), 2);
        due.is("nothing is changed", x.about(3) + x.about(13), 0);
        x.group(A, 3);
        due.is("RESET is done", x.judge(3, 310002000030000L), NONE);
        due.is("RESET is done", x.judge(2, 2000031000L), 1);
        due.is("NAME at 3", x.judge(2, 4310042000L), NONE);
        due.is("NAME at 3", x.judge(1, 43000L), 0);
        due.is("NAME at 2", x.judge(1, 42100L), 0);
        due.is("THE PROGRAM", x.judge(1, 60128L), NONE);
        due.is("THE PROGRAM", x.judge(1, 60129L), 0);
        due.is("PART 3", x.judge(1, 53133L), NONE);
        due.is("a new PART 0 clears it", x.judge(3, 531331000553133L), 2);
        due.is("SYNC is as it was", x.about(5), 1);
        due.is("THE PROGRAM that is not there", new SideWords().judge(1, 60000L), 0);
        due.is("a PART that is not there", new SideWords().judge(1, 50000L), 0);
    }

    private static void judgeForms() {
        due.about("promise 25: forms");
        SideWords x = heardA("01", 0);
        long[] canNotBe = {0, 1, 9999, 10256, 14000, 19000, 20001, 20010, 20100, 21000, 30001, 32000, 30100, 31000,
            40001, 40010, 40200, 44000, 41101, 54000, 50256, 61000, 69128, 70000, 80000, 90000, 99999};
        for (long doing : canNotBe) {
            due.is("judge(1, " + doing + ")", x.judge(1, doing), 0);
            due.is("as the second one", x.judge(2, 2000000000L + doing), 1);
        }
        long[] canBe = {10000, 13255, 20000, 30000, 40000, 43000};
        for (long doing : canBe) {
            due.is("judge(1, " + doing + ")", x.judge(1, doing), NONE);
        }
        due.is("leading figures that are 0", x.judge(2, 20000L), 0);
        due.is("judge(0, 0)", x.judge(0, 0), BAD);
        due.is("judge(4, 0)", x.judge(4, 0), BAD);
        due.is("judge(1, 100000)", x.judge(1, 100000L), BAD);
        due.is("judge(2, 10^10)", x.judge(2, 10000000000L), BAD);
        due.is("judge(3, 10^15)", x.judge(3, 1000000000000000L), BAD);
        due.is("judge(3, 10^15 - 1)", x.judge(3, 999999999999999L), 0);
        due.is("judge(1, -1)", x.judge(1, -1L), BAD);
        due.is("judge(3, the least)", x.judge(3, Long.MIN_VALUE), BAD);
        due.is("judge(3, the most)", x.judge(3, Long.MAX_VALUE), BAD);
        for (int far : FAR) {
            due.is("judge(" + far + ", 20000)", x.judge(far, 20000L), BAD);
        }
    }

    // ---- promises 26 to 32

    private static void seenAndShared() {
        see();
        which();
        share();
        chance();
        drawn();
    }

    private static void see() {
        due.about("promises 26, 27");
        SideWords x = heardA("01", 0);
        int[][] refused = {{3, 0}, {-1, 0}, {0, 10}, {0, -1}, {Integer.MIN_VALUE, 0}, {0, Integer.MAX_VALUE}};
        for (int[] row : refused) {
            due.is("see(A, " + row[0] + ", " + row[1] + ")", x.see(A, row[0], row[1]), BAD);
        }
        for (int i = 1; i <= 4; i++) {
            due.is("see", x.see(A, i % 3, 9), i);
        }
        due.is("a fifth one", x.see(A, 0, 0), FULL);
        due.is("what is bad is told first", x.see(A, 3, 0), BAD);
        due.is("about(14)", x.about(14), 4);
        due.is("no ACT", x.about(13), 0);
        due.is("unsee()", x.unsee(), 4);
        due.is("unsee()", x.unsee(), 0);
        due.is("which()", x.which(), (1L << 56) - 1);
        due.is("see", x.see(A, 2, 0), 1);
    }

    private static void which() {
        due.about("promise 28");
        SideWords x = heardA("19", 1);
        x.see(A, 0, 3);
        due.is("any bit spoils one GOOD one", x.which(), (1L << 56) - 1);
        x.see(A, 1, 1);
        due.is("any single bit is mended", x.which(), (1L << 56) - 1);
        x.see(A, 2, 1);
        due.is("none is spoilt", x.which(), 0);
        x = heardA("21", 1);
        x.see(A, 1, 1);
        long mendable = 0;
        for (int place = 0; place < 56; place++) {
            int w = x.word(place / 14, A >>> (24 - 8 * (place / 14)) & 255);
            if (x.mended(place / 14, w ^ 1 << (13 - place % 14)) != NONE) {
                mendable |= 1L << place;
            }
        }
        due.is("bits that are sure by LONG 2", x.which(), mendable);
        due.holds("some, not all", mendable != 0 && mendable != (1L << 56) - 1);
        x = heardA("09", 0);
        x.see(A, 0, 2);
        long before = x.which();
        due.holds("the first WORD's bits are among them", (before & 1) == 1);
        x.group(A, 1);
        due.is("from how all is when it is asked", x.which(), 0);
        x.unsee();
        x.see(A, 0, 3);
        due.is("with SYNC any bit costs one", x.which(), (1L << 56) - 1);
        due.is("nothing is changed", x.about(3), 56);
    }

    private static void share() {
        due.about("promise 29");
        SideWords x = heardA("09", 1);
        int with = x.ahead(A, 3, 9);
        due.is("all WORDS are there", with, 15);
        int sum = 0;
        for (int word = 0; word < 4; word++) {
            due.is("in least terms", gcd(x.share(A, word, true), x.share(A, word, false)), 1);
            due.holds("below is more than 0", x.share(A, word, false) > 0 && 24 % x.share(A, word, false) == 0);
            sum += 24 / x.share(A, word, false) * x.share(A, word, true);
        }
        // Together the shares make up what all WORDS bring over what none brings.
        SideWords none = heardA("09", 1);
        for (int i = 0; i < 12; i++) {
            none.hear(i & 3, A >>> (24 - 8 * (i & 3)) & 255, 16383);
        }
        due.is("together", sum, 24 * (with - none.about(9)));
        due.is("share(A, 4, true)", x.share(A, 4, true), UNKNOWN);
        for (int far : FAR) {
            due.is("share(A, " + far + ", false)", x.share(A, far, false), UNKNOWN);
        }
        due.is("nothing is changed", x.about(3), 56);
        due.is("0", new SideWords().share(0, 0, true), 0);
        due.is("by 1", new SideWords().share(0, 0, false), 1);
        // A WORD that has come is GOOD three times; only when none has, HOLD 9 is met, and no GOOD one follows.
        due.is("none that is turned is GOOD", none.about(9), 3);
        for (int word = 0; word < 4; word++) {
            due.is("like shares", x.share(A, word, true), 3);
            due.is("like shares", x.share(A, word, false), 1);
        }
    }

    private static void chance() {
        due.about("promise 30");
        SideWords x = heardA("01", 0);
        due.is("none turned", x.chance(A, 1, 0, true), 1);
        due.is("none turned", x.chance(A, 1, 0, false), 1);
        due.is("of n 2 none turned", x.chance(A, 2, 0, true), 1);
        SideWords all = heardA("01", 0);
        for (int k = 0; k < 4; k++) {
            all.hear(k, A >>> (24 - 8 * k) & 255, 16383);
        }
        due.is("all turned", x.chance(A, 1, 10, true), all.about(5));
        // With SYNC and HOLD 9 eight WORDS can not lose it.
        due.is("SYNC is held", heardA("09", 1).chance(A, 2, 7, true), 1);
        due.is("SYNC is held", heardA("09", 1).chance(A, 2, 7, false), 1);
        // HOLD 4, no turned WORD is GOOD: it is lost just if all four are turned, and four alone never bring it back.
        SideWords y = heardA("04", 1);
        boolean everGood = false;
        for (int k = 0; k < 4; k++) {
            everGood |= y.rest(k, y.word(k, 0) ^ 16383) == 0;
        }
        due.holds("turned WORDS are spoilt", !everGood);
        due.is("all but 16 of 10000", y.chance(A, 1, 2, true), 624);
        due.is("all but 16 of 10000", y.chance(A, 1, 2, false), 625);
        int[][] refused = {{0, 5}, {3, 5}, {1, 11}, {1, -1}, {Integer.MIN_VALUE, 0}, {2, Integer.MAX_VALUE}};
        for (int[] row : refused) {
            due.is("chance refused", x.chance(A, row[0], row[1], true), BAD);
        }
        due.is("nothing is changed", x.about(3), 0);
    }

    private static void drawn() {
        due.about("promises 31, 32");
        SideWords x = heardA("19", 1);
        due.is("seed", x.seed(-5), 0);
        due.is("seed", x.seed(Long.MAX_VALUE), -5);
        due.is("seed", x.seed(12), Long.MAX_VALUE);
        due.is("drawn(0)", x.drawn(0), BAD);
        due.is("drawn(41)", x.drawn(41), BAD);
        for (int far : FAR) {
            due.is("drawn(" + far + ")", x.drawn(far), BAD);
        }
        due.is("SYNC is held", x.drawn(40), 40);
        long seed = 12;
        for (int i = 0; i < 40; i++) {
            seed = seed * 6364136223846793005L + 1442695040888963407L;
        }
        due.is("THE SEED goes on", x.seed(3), seed);
        due.is("nothing else does", x.about(3), 56);
        for (int start = 0; start < 30; start++) {
            drawnByHand("S0310203040" + start % 4 + (1 + start % 3), start);
        }
    }

    private static void drawnByHand(String station, long start) {
        SideWords x = told(station);
        SideWords y = told(station);
        x.seed(start);
        long s = start;
        int often = 0;
        for (int i = 0; i < 25; i++) {
            s = s * 6364136223846793005L + 1442695040888963407L;
            int v = (int) (s >>> 33);
            int mask = (v >> 8) % 4 == 0 ? 1 << (v >> 12) % 14 : 0;
            often += y.hear(i & 3, v & 255, mask);
        }
        due.is("drawn(25) of seed " + start, x.drawn(25), often);
    }

    // ---- promises 33, 34

    private static void slots() {
        due.about("promises 33, 34");
        SideWords x = heardA("19", 3);
        x.seed(8);
        due.is("keep(2)", x.keep(2), UNKNOWN);
        due.is("again(2)", x.again(2), UNKNOWN);
        for (int far : FAR) {
            due.is("keep(" + far + ")", x.keep(far), UNKNOWN);
            due.is("again(" + far + ")", x.again(far), UNKNOWN);
        }
        due.is("keep(0)", x.keep(0), 168);
        due.is("ACTS stay", x.about(13), 1);
        due.is("again(1)", x.again(1), LATE);
        x.group(groupOf(1, 0xC1, 5, 6), 2);
        x.bits(3, 5);
        due.is("keep(1)", x.keep(1), 283);
        x.see(A, 0, 1);
        x.seed(9);
        x.reset();
        due.is("again(0)", x.again(0), 168);
        due.is("no ACTS", x.about(13), 0);
        due.is("undo()", x.undo(), LATE);
        due.is("SYNC", x.about(5), 1);
        due.is("PHASE", x.about(7), 0);
        due.is("FLAG", x.told(3), 0);
        due.is("NAME", x.name(3, false), PAIR);
        due.is("THE PROGRAM", x.told(0), 128);
        due.is("PARTS", x.told(6), 15);
        due.is("SEEN stays", x.about(14), 1);
        due.is("THE SEED stays", x.seed(0), 9);
        due.is("again(1)", x.again(1), 283);
        due.is("PHASE", x.about(7), 3);
        due.is("FLAG", x.told(3), 1);
        due.is("LOSSES", x.about(12), 0);
        x.bits(1, 1);
        due.is("a slot can be gone on from twice", x.again(1), 283);
        due.is("undo() takes back no slot", x.undo(), LATE);
        due.is("keep(0)", x.keep(0), 283);
        due.is("the older one is gone", x.again(0), 283);
    }
}
