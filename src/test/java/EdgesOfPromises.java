/** Promises 1 to 34: one test for each sentence that names an edge or a refusal. */
final class EdgesOfPromises extends Made {
    private static final int[] NO_OFFSETS = {-1, 4, 5, Integer.MIN_VALUE, Integer.MAX_VALUE};
    private static final int[] NO_BYTES = {-1, 256, 257, Integer.MIN_VALUE, Integer.MAX_VALUE};
    private static final int[] NO_WORDS = {-1, 16384, 16385, Integer.MIN_VALUE, Integer.MAX_VALUE};

    private EdgesOfPromises() {
    }

    static void run(Edges edges) {
        theText(edges);
        whatStands(edges);
        words(edges);
        acts(edges);
        asked(edges);
        seenSharesSlots(edges);
    }

    // ---- promises 1 to 5

    private static void theText(Edges edges) {
        edges.of(1, "Nothing heard.", EdgesOfPromises::newObject);
        edges.of(2, "A letter (0 .. 255) comes behind THE TEXT: how long it is. BAD;", EdgesOfPromises::letters);
        edges.of(2, "FULL: there are 40.", EdgesOfPromises::fullText);
        edges.of(3, "THE TEXT is empty: how long it was.", EdgesOfPromises::wipe);
        edges.of(4, "FAULT; NONE.", EdgesOfPromises::fault);
        edges.of(5, "THE TEXT is THE STATION (nothing is HEARD yet, no ACTS; what was kept is gone; THE TEXT, SEEN, "
            + "THE SEED stay): G.", EdgesOfPromises::newStation);
        edges.of(5, "LATE: a FAULT.", EdgesOfPromises::lateStation);
    }

    private static void newObject() {
        same("all of it", look(new SideWords()), "1 0 1 0 0 0 -9 -9 -9 0 0 0 0 0 0 0 0 0 "
            + "-9 -9 -9 0 0 0 0 " + "0 -9 -9 -9 1 -9 -9 -9 2 -9 -9 -9 3 -9 -9 -9 " + "-9 -9 ".repeat(8)
            + "0 0 " + ALL_PLACES);
        due.is("undo()", new SideWords().undo(), LATE);
        due.is("again(0)", new SideWords().again(0), LATE);
        due.is("again(1)", new SideWords().again(1), LATE);
        due.is("wipe()", new SideWords().wipe(), 0);
        due.is("unsee()", new SideWords().unsee(), 0);
        due.is("reset()", new SideWords().reset(), 0);
        due.is("station()", new SideWords().station(), LATE);
        SideWords x = new SideWords();
        x.group(A, 9);
        due.is("another one is not touched by it", new SideWords().about(3), 0);
        asTheFirstStation();
    }

    /** G 1, OFFSETS 0 to 3, LONG 0, HOLD 1 are there without being told. */
    private static void asTheFirstStation() {
        SideWords x = new SideWords();
        SideWords y = told("S010001020301");
        for (int i = 0; i < 16; i++) {
            int k = i & 3;
            due.is("word", x.word(k, 16 * i + k), 64 * (16 * i + k) | divided(64 * (16 * i + k), 1) ^ k);
            due.is("rest", x.rest(k, 1000 * i + k), divided(1000 * i + k, 1) ^ k);
            due.is("mended", x.mended(k, 1000 * i), y.mended(k, 1000 * i));
            due.is("slips", x.slips(k, 11 * i, 7 * i), y.slips(k, 11 * i, 7 * i));
        }
        int withSync = 0;
        for (int i = 0; i < 100; i++) {
            SideWords one = new SideWords();
            SideWords other = told("S010001020301");
            due.is("group", one.group(i * 715827883, 2), other.group(i * 715827883, 2));
            same("behind it", lookAtHeard(one), lookAtHeard(other));
            withSync += one.about(5);
        }
        due.holds("some bring SYNC", withSync > 0);
    }

    private static void letters() {
        int[] no = {-1, 256, 257, Integer.MIN_VALUE, Integer.MAX_VALUE, 'S' + 256, 'S' - 256};
        SideWords x = new SideWords();
        for (int letter : no) {
            due.is("write(" + letter + ")", x.write(letter), BAD);
        }
        due.is("none came", x.about(15), 0);
        due.is("write(0)", x.write(0), 1);
        due.is("write(255)", x.write(255), 2);
        due.is("write(1)", x.write(1), 3);
        due.is("write(254)", x.write(254), 4);
    }

    private static void fullText() {
        SideWords x = new SideWords();
        for (int n = 1; n <= 40; n++) {
            due.is("write", x.write('0'), n);
        }
        for (int letter = 0; letter <= 255; letter += 51) {
            due.is("write(" + letter + ")", x.write(letter), FULL);
        }
        due.is("40", x.about(15), 40);
        due.is("wipe()", x.wipe(), 40);
        due.is("room again", x.write('0'), 1);
    }

    private static void wipe() {
        SideWords x = new SideWords();
        due.is("an empty one", x.wipe(), 0);
        x.write('S');
        due.is("one letter", x.wipe(), 1);
        due.is("twice", x.wipe(), 0);
        due.is("about(15)", x.about(15), 0);
        due.is("fault()", x.fault(), 0);
        spell(x, "x".repeat(40));
        due.is("a full one", x.wipe(), 40);
        spell(x, "S450915336039");
        due.is("nothing of it is left", x.fault(), NONE);
        x.station();
        x.wipe();
        due.is("THE STATION is", x.about(0), 45);
    }

    private static void fault() {
        due.is("of an empty text", new SideWords().fault(), 0);
        due.is("none", faultOf("S010001020301"), NONE);
        due.is("the last letter", faultOf("S01000102030:"), 12);
        due.is("a text of 40", faultOf("S010001020301" + "0".repeat(27)), 13);
        SideWords x = new SideWords();
        String text = "S0100010203011";
        for (int i = 0; i < 14; i++) {
            x.write(text.charAt(i));
            due.is("letter by letter", x.fault(), i < 12 ? i + 1 : i == 12 ? NONE : 13);
        }
    }

    private static void newStation() {
        SideWords x = eventful("S031020304012");
        x.keep(0);
        x.keep(1);
        x.see(A, 2, 9);
        x.seed(55);
        x.wipe();
        spell(x, "S630001620339");
        due.is("G", x.station(), 63);
        SideWords y = told("S630001620339");
        y.see(A, 2, 9);
        y.seed(55);
        same("as of a new object", look(x), look(y));
        due.is("THE TEXT stays", x.about(15), 13);
        due.is("no ACTS", x.undo(), LATE);
        due.is("SLOT 0 is gone", x.again(0), LATE);
        due.is("SLOT 1 is gone", x.again(1), LATE);
        due.is("the same once more", x.station(), 63);
        x = heardA("01", 0);
        x.hear(0, 128, 0);
        x.station();
        due.is("no LAST HIT", x.hear(1, 3, 0), 0);
        for (String row : rowsFromZero()) {
            x = heardA("01", 1);
            x.bits(5, 0);
            x.station();
            due.is("SINCE is 0", hearRow(x, row.substring(1)), 0);
            x.station();
            due.is("14 bits are enough", hearRow(x, row), 1);
        }
    }

    /** Of all that can come of what is HEARD some has come, and there is SYNC. */
    private static SideWords eventful(String station) {
        SideWords x = told(station);
        x.group(A, 3);
        x.hear(0, 9, SPOIL);
        x.reset();
        x.group(A, 1);
        x.group(groupOf(5, 0x40, 7, 8), 1);
        x.group(groupOf(5, 0x80, 7, 8), 1);
        x.group(groupOf(5, 0xC1, 7, 8), 1);
        x.group(groupOf(5, 0x02, 7, 8), 2);
        x.hear(0, 9, 1);
        x.hear(1, 9, SPOIL);
        x.bits(3, 5);
        for (int what = 3; what <= 12; what++) {
            due.holds("about(" + what + ")", x.about(what) > 0);
        }
        for (int what = 0; what <= 6; what++) {
            due.holds("told(" + what + ")", x.told(what) > 0);
        }
        return x;
    }

    private static void lateStation() {
        String[] no = {"", "S", "S01000102030", "S0100010203011", "S020001020301", "S010000020301", "S010001020341",
            "S010001020300", "s010001020301", "S010001026401"};
        for (String text : no) {
            SideWords x = heardA("19", 2);
            x.keep(1);
            x.wipe();
            spell(x, text);
            String was = look(x);
            due.is("station() of " + text, x.station(), LATE);
            same("nothing is changed", look(x), was);
            due.is("ACTS are there", x.undo(), 0);
            due.is("SLOT 1 is there", x.again(1), 112);
        }
    }

    // ---- promises 6 to 11

    private static void whatStands(Edges edges) {
        edges.of(6, "1 if there is SYNC (5), DUE (6; NONE: no SYNC), PHASE (7; NONE: no SYNC), BADS (8; NONE: no SYNC)",
            EdgesOfPromises::withoutSync);
        edges.of(6, "how many BURSTS there are (16), how many are SURE (17). BAD.", EdgesOfPromises::aboutWhat);
        edges.of(7, "An OFFSET. UNKNOWN.", EdgesOfPromises::offset);
        edges.of(8, "THE PROGRAM (what = 0; NONE), THE CANDIDATE for it (1; NONE), THE CLOCK (2; NONE)",
            EdgesOfPromises::notYetTold);
        edges.of(8, "PLACES at which NAME has something (5: bits), PARTS that are there (6: bits). BAD.",
            EdgesOfPromises::toldWhat);
        edges.of(9, "A PART; NONE: it is not there.", EdgesOfPromises::part);
        edges.of(9, "UNKNOWN: k.", EdgesOfPromises::noPart);
        edges.of(10, "What NAME has at a PLACE (candidate = false), its CANDIDATE; NONE.", EdgesOfPromises::name);
        edges.of(10, "UNKNOWN: place (0 .. 3).", EdgesOfPromises::noPlace);
        edges.of(11, "the i-th STATION (from 0; times = false), how often it was HEARD OF; NONE: there is none such "
            + "(for any other i, too).", EdgesOfPromises::list);
    }

    private static void withoutSync() {
        SideWords x = heardA("09", 0);
        for (int way = 0; way < 2; way++) {
            due.is("SYNC", x.about(5), 0);
            for (int what = 6; what <= 8; what++) {
                due.is("about(" + what + ")", x.about(what), NONE);
            }
            x.group(A, 1);
            due.is("SYNC", x.about(5), 1);
            for (int what = 6; what <= 8; what++) {
                due.is("about(" + what + ") with SYNC is 0", x.about(what), 0);
            }
            x.hear(0, 0, SPOIL);
            x.bits(13, 0);
            due.is("DUE", x.about(6), 1);
            due.is("PHASE", x.about(7), 13);
            due.is("BADS", x.about(8), 1);
            x.reset();
        }
    }

    private static void aboutWhat() {
        SideWords x = heardA("39", 1);
        due.is("about(0), the first", x.about(0), 3);
        due.is("about(16)", x.about(16), 51);
        due.is("about(17), the last", x.about(17) >= 0 ? 1 : 0, 1);
        int[] no = {-1, 18, 19, 256, Integer.MIN_VALUE, Integer.MAX_VALUE};
        for (int what : no) {
            due.is("about(" + what + ")", x.about(what), BAD);
        }
    }

    private static void offset() {
        SideWords x = told("S016300620101");
        int[] want = {63, 0, 62, 1};
        for (int k = 0; k < 4; k++) {
            due.is("offset(" + k + ")", x.offset(k), want[k]);
        }
        for (int k : NO_OFFSETS) {
            due.is("offset(" + k + ")", x.offset(k), UNKNOWN);
        }
    }

    private static void notYetTold() {
        SideWords x = heardA("09", 1);
        for (int what = 0; what <= 2; what++) {
            due.is("told(" + what + ")", x.told(what), NONE);
        }
        x.group(groupOf(0, 0x40, 0, 0), 1);
        due.is("THE PROGRAM", x.told(0), NONE);
        due.is("THE CANDIDATE is 0", x.told(1), 0);
        due.is("THE CLOCK is 0", x.told(2), 0);
        x.group(groupOf(0, 0x40, 0, 0), 1);
        due.is("THE PROGRAM is 0", x.told(0), 0);
    }

    private static void toldWhat() {
        SideWords x = heardA("09", 1);
        for (int place = 0; place < 4; place++) {
            x.group(groupOf(1, place, 8, 9), 2);
            due.is("PLACES 0 to " + place, x.told(5), (2 << place) - 1);
        }
        for (int k = 0; k < 4; k++) {
            x.hear(k, 5, 0);
            due.is("PARTS 0 to " + k, x.told(6), (2 << k) - 1);
        }
        int[] no = {-1, 7, 8, Integer.MIN_VALUE, Integer.MAX_VALUE};
        for (int what : no) {
            due.is("told(" + what + ")", x.told(what), BAD);
        }
    }

    private static void part() {
        SideWords x = heardA("09", 0);
        for (int k = 0; k < 4; k++) {
            due.is("at first", x.part(k), NONE);
        }
        x.group(A, 1);
        due.is("PART 0 was the LAST HIT", x.part(0), NONE);
        x.group(0, 1);
        for (int k = 0; k < 4; k++) {
            due.is("it is there, as 0", x.part(k), 0);
        }
        x.group(-1, 1);
        for (int k = 0; k < 4; k++) {
            due.is("it is there, as 255", x.part(k), 255);
        }
    }

    private static void noPart() {
        SideWords x = heardA("09", 2);
        for (int k : NO_OFFSETS) {
            due.is("part(" + k + ")", x.part(k), UNKNOWN);
        }
        due.is("the last", x.part(3), 133);
    }

    private static void name() {
        SideWords x = heardA("09", 1);
        due.is("its CANDIDATE", x.name(3, true), PAIR);
        due.is("not yet", x.name(3, false), NONE);
        x.group(A, 1);
        due.is("NAME", x.name(3, false), PAIR);
        for (int place = 0; place < 3; place++) {
            due.is("NAME at " + place, x.name(place, false), NONE);
            due.is("CANDIDATE at " + place, x.name(place, true), NONE);
        }
    }

    private static void noPlace() {
        SideWords x = heardA("09", 2);
        for (int place : NO_OFFSETS) {
            due.is("name(" + place + ", false)", x.name(place, false), UNKNOWN);
            due.is("name(" + place + ", true)", x.name(place, true), UNKNOWN);
        }
        due.is("the last", x.name(3, false), PAIR);
        due.is("the first", x.name(0, false), NONE);
    }

    private static void list() {
        SideWords x = heardA("09", 1);
        due.is("an empty one", x.list(0, false), NONE);
        due.is("an empty one", x.list(0, true), NONE);
        for (int i = 1; i <= 4; i++) {
            x.group(groupOf(1, 0x80, 2 * i - 1, 2 * i), 1);
            due.is("the last", x.list(2 * i - 1, false), 2 * i);
            due.is("behind the last", x.list(2 * i, false), NONE);
            due.is("behind the last", x.list(2 * i, true), NONE);
        }
        int[] no = {-1, 8, 9, Integer.MIN_VALUE, Integer.MAX_VALUE};
        for (int i : no) {
            due.is("list(" + i + ", false)", x.list(i, false), NONE);
            due.is("list(" + i + ", true)", x.list(i, true), NONE);
        }
    }

    // ---- promises 12 to 17

    private static void words(Edges edges) {
        edges.of(12, "UNKNOWN: k;", () -> unknown("word", (x, k) -> x.word(k, 0)));
        edges.of(12, "BAD: d.", () -> bad("word", NO_BYTES, (x, d) -> x.word(3, d)));
        edges.of(13, "UNKNOWN: k;", () -> unknown("rest", (x, k) -> x.rest(k, 0)));
        edges.of(13, "BAD: w.", () -> bad("rest", NO_WORDS, (x, w) -> x.rest(3, w)));
        edges.of(14, "What a BLOCK w of OFFSET k would be: DATA, if it is GOOD or MENDED; NONE: it is SPOILT.",
            EdgesOfPromises::mended);
        edges.of(14, "UNKNOWN: k;", () -> unknown("mended", (x, k) -> x.mended(k, 0)));
        edges.of(14, "BAD: w.", () -> bad("mended", NO_WORDS, (x, w) -> x.mended(3, w)));
        edges.of(16, "BAD: n (0 .. 4), what (0 .. 3).", EdgesOfPromises::flips);
        edges.of(17, "UNKNOWN: k;", () -> unknown("slips", (x, k) -> x.slips(k, 0, 0)));
        edges.of(17, "BAD: d, e.", () -> {
            bad("slips", NO_BYTES, (x, d) -> x.slips(3, d, 255));
            bad("slips", NO_BYTES, (x, e) -> x.slips(3, 255, e));
        });
    }

    /** A call of an object with one number. */
    private interface Call {
        int of(SideWords x, int v);
    }

    private static void unknown(String what, Call call) {
        for (int k : NO_OFFSETS) {
            due.is(what + " of OFFSET " + k, call.of(heardA("09", 1), k), UNKNOWN);
        }
        for (int k = 0; k < 4; k++) {
            due.holds(what + " of OFFSET " + k, call.of(heardA("09", 1), k) != UNKNOWN);
        }
    }

    /** no: the numbers just outside and far outside, the second one being the first above all that are right. */
    private static void bad(String what, int[] no, Call call) {
        for (int v : no) {
            due.is(what + " of " + v, call.of(heardA("09", 1), v), BAD);
        }
        due.holds(what + " of 0", call.of(heardA("09", 1), 0) != BAD);
        due.holds(what + " of " + (no[1] - 1), call.of(heardA("09", 1), no[1] - 1) != BAD);
    }

    private static void mended() {
        SideWords x = heardA("11", 0);
        due.is("GOOD, 0", x.mended(0, 10), 0);
        due.is("GOOD, 255", x.mended(3, wordByHand(3, 255)), 255);
        for (int bit = 0; bit < 14; bit++) {
            due.is("MENDED, bit " + bit, x.mended(3, wordByHand(3, 255) ^ 1 << bit), 255);
            due.is("SPOILT by LONG 0", heardA("01", 0).mended(3, wordByHand(3, 255) ^ 1 << bit), NONE);
        }
        due.is("SPOILT", x.mended(0, 10 ^ SPOIL), NONE);
        due.is("of another OFFSET", x.mended(1, wordByHand(0, 7)), NONE);
    }

    private static void flips() {
        SideWords x = heardA("11", 0);
        int[] no = {-1, 5, 6, Integer.MIN_VALUE, Integer.MAX_VALUE};
        for (int n : no) {
            due.is("flips(" + n + ", 0)", x.flips(n, 0), BAD);
        }
        for (int what : NO_OFFSETS) {
            due.is("flips(0, " + what + ")", x.flips(0, what), BAD);
            due.is("flips(4, " + what + ")", x.flips(4, what), BAD);
        }
        due.is("the fewest bits", x.flips(0, 0), 1);
        due.is("no bits are MENDED", x.flips(0, 3), 0);
        due.is("the most bits", x.flips(4, 0) + x.flips(4, 1) + x.flips(4, 2) + x.flips(4, 3), 1001);
    }

    // ---- promises 18 to 22

    private static void acts(Edges edges) {
        edges.of(18, "the lowest n (1 .. 14) of v, the highest of these first, are HEARD: 1 if there is SYNC then, 0.",
            EdgesOfPromises::bits);
        edges.of(18, "BAD: n, v (0 or more, n bits at most).", EdgesOfPromises::badBits);
        edges.of(19, "the bits of mask (0 .. 16383) turned, is HEARD: 1 if there is SYNC then, 0.",
            EdgesOfPromises::hear);
        edges.of(19, "UNKNOWN: k;", () -> unknown("hear", (x, k) -> x.hear(k, 0, 0)));
        edges.of(19, "BAD: d, mask.", () -> {
            bad("hear", NO_BYTES, (x, d) -> x.hear(0, d, 0));
            bad("hear", NO_WORDS, (x, mask) -> x.hear(0, 0, mask));
        });
        edges.of(20, "A GROUP is HEARD n times: how much COUNTS GOOD and MENDED are more by it, together.",
            EdgesOfPromises::groupCounts);
        edges.of(20, "BAD: n (1 .. 9).", EdgesOfPromises::badGroup);
        edges.of(21, "RESET: SYNC is LOST, if there is any; there is no LAST HIT, SINCE is 0: 1 if there was SYNC, 0.",
            EdgesOfPromises::reset);
        edges.of(22, "The last ACT is undone: how many are left.", EdgesOfPromises::undo);
        edges.of(22, "LATE: there is none.", EdgesOfPromises::lateUndo);
    }

    private static void bits() {
        for (int n = 1; n <= 14; n++) {
            SideWords x = heardA("01", 0);
            due.is("all ones", x.bits(n, (1 << n) - 1), 0);
            due.is("THE WINDOW", x.about(4), (1 << n) - 1);
            due.is("HEARD", x.about(3), n);
            due.is("zeros", x.bits(n, 0), 0);
            due.is("THE WINDOW", x.about(4), ((1 << n) - 1 << n) & 16383);
            due.is("the highest first", x.bits(n, 1), 0);
            due.is("it came last", x.about(4) & 1, 1);
        }
        SideWords x = heardA("01", 0);
        x.hear(0, 128, 0);
        due.is("all but one bit", x.bits(13, x.word(1, 3) >> 1), 0);
        due.is("SYNC then", x.bits(1, x.word(1, 3) & 1), 1);
        due.is("SYNC still", x.bits(13, 0), 1);
        due.is("LOST then", x.bits(1, 0), 0);
    }

    private static void badBits() {
        SideWords x = heardA("01", 0);
        int[] no = {-1, 0, 15, 16, 31, 32, 33, Integer.MIN_VALUE, Integer.MAX_VALUE};
        for (int n : no) {
            due.is("bits(" + n + ", 0)", x.bits(n, 0), BAD);
            due.is("bits(" + n + ", 1)", x.bits(n, 1), BAD);
        }
        for (int n = 1; n <= 14; n++) {
            due.is("one too many for " + n, x.bits(n, 1 << n), BAD);
            due.is("less than 0", x.bits(n, -1), BAD);
            due.is("far less", x.bits(n, Integer.MIN_VALUE), BAD);
            due.is("far more", x.bits(n, Integer.MAX_VALUE), BAD);
        }
        due.is("nothing was HEARD", x.about(3), 0);
        due.is("no ACTS", x.about(13), 0);
    }

    private static void hear() {
        SideWords x = heardA("01", 0);
        due.is("no SYNC", x.hear(0, 128, 0), 0);
        due.is("THE WINDOW", x.about(4), wordByHand(0, 128));
        due.is("SYNC", x.hear(1, 3, 0), 1);
        due.is("a mask of all bits", x.hear(2, 255, 16383), 0);
        due.is("THE WINDOW", x.about(4), wordByHand(2, 255) ^ 16383);
        for (int bit = 0; bit < 14; bit++) {
            x.hear(3, 0, 1 << bit);
            due.is("bit " + bit, x.about(4), 40 ^ 1 << bit);
        }
    }

    private static void groupCounts() {
        due.is("nothing GOOD", new SideWords().group(0, 9), 0);
        SideWords x = heardA("19", 0);
        due.is("once", x.group(A, 1), 3);
        due.is("9 times", x.group(A, 9), 36);
        due.is("HEARD", x.about(3), 560);
        int mended = 0;
        for (int i = 0; i < 200; i++) {
            SideWords y = heardA("19", 1);
            y.hear(0, 9, 1);
            y.bits(1 + i % 13, i & 1);
            int good = y.about(9);
            int before = y.about(10);
            int more = y.group(i * 715827883, 1);
            due.is("GOOD and MENDED", more, y.about(9) - good + y.about(10) - before);
            mended += y.about(10) - before;
        }
        due.holds("some MENDED", mended > 0);
    }

    private static void badGroup() {
        int[] no = {-1, 0, 10, 11, Integer.MIN_VALUE, Integer.MAX_VALUE};
        SideWords x = heardA("01", 0);
        for (int n : no) {
            due.is("group(A, " + n + ")", x.group(A, n), BAD);
        }
        due.is("nothing was HEARD", x.about(3), 0);
        int[] groups = {0, -1, Integer.MIN_VALUE, Integer.MAX_VALUE};
        for (int group : groups) {
            due.is("any GROUP will do", heardA("09", 1).group(group, 1), 4);
        }
    }

    private static void reset() {
        SideWords x = heardA("09", 0);
        due.is("without SYNC", x.reset(), 0);
        x.group(A, 1);
        x.bits(5, 3);
        due.is("with SYNC", x.reset(), 1);
        due.is("SYNC", x.about(5), 0);
        due.is("PARTS", x.told(6), 0);
        due.is("LOSSES", x.about(12), 1);
        due.is("HEARD stays", x.about(3), 61);
        due.is("twice", x.reset(), 0);
        x = heardA("01", 0);
        x.hear(0, 128, 0);
        x.reset();
        due.is("no LAST HIT", x.hear(1, 3, 0), 0);
        for (String words : rowsFromZero()) {
            due.is("14 bits behind it", hearRow(resetBehindZero(), words), 1);
            due.is("13 bits behind it", hearRow(resetBehindZero(), words.substring(1)), 0);
        }
    }

    /** RESET without SYNC, 20 bits of 0 ahead of it. */
    private static SideWords resetBehindZero() {
        SideWords x = heardA("01", 0);
        x.bits(14, 0);
        x.bits(6, 0);
        x.reset();
        return x;
    }

    private static void undo() {
        SideWords x = heardA("12", 0);
        String[] looks = new String[14];
        for (int i = 0; i < 14; i++) {
            looks[i] = lookAtHeard(x);
            switch (i % 5) {
                case 0: x.group(groupOf(i / 10, 64 * (i / 3), 5, 6), 2); break;
                case 1: x.hear(0, 9, 64); break;
                case 2: x.bits(14 - i, 1); break;
                case 3: x.reset(); break;
                default: x.group(A, 3); break;
            }
        }
        for (int left = 13; left >= 0; left--) {
            due.is("undo()", x.undo(), left);
            due.is("ACTS", x.about(13), left);
            same("as it was ahead of ACT " + left, lookAtHeard(x), looks[left]);
        }
        eachKindUndone();
        x = heardA("01", 0);
        x.hear(0, 128, 0);
        x.bits(13, x.word(1, 3) >> 1);
        x.reset();
        x.undo();
        due.is("the LAST HIT and SINCE, too", x.bits(1, x.word(1, 3) & 1), 1);
    }

    private static void eachKindUndone() {
        int[] groups = {groupOf(9, 0x41, 20, 30), groupOf(9, 0x81, 7, 99), groupOf(9, 0xC0, 0, 0),
            groupOf(9, 0x02, 1, 1), groupOf(9, 0x03, 4, 4)};
        for (int group : groups) {
            SideWords x = eventful("S031020304019");
            x.bits(11, 0);
            x.hear(3, 0, 0);
            String was = lookAtHeard(x);
            x.group(group, 2);
            due.holds("it did something", !lookAtHeard(x).equals(was));
            due.is("undo()", x.undo(), 13);
            same("undone", lookAtHeard(x), was);
        }
    }

    private static void lateUndo() {
        due.is("of a new object", new SideWords().undo(), LATE);
        SideWords x = heardA("01", 1);
        due.is("one", x.undo(), 0);
        due.is("none", x.undo(), LATE);
        due.is("HEARD", x.about(3), 0);
        x.group(A, 1);
        x.keep(0);
        x.again(0);
        due.is("behind again()", x.undo(), LATE);
        due.is("HEARD", x.about(3), 56);
        x.group(A, 1);
        x.station();
        due.is("behind station()", x.undo(), LATE);
        for (int i = 0; i < 20; i++) {
            x.reset();
        }
        for (int left = 13; left >= 0; left--) {
            due.is("one of 14", x.undo(), left);
        }
        due.is("the others are forgotten", x.undo(), LATE);
    }

    // ---- promises 23 to 25

    private static void asked(Edges edges) {
        edges.of(23, "AHEAD: what = 3 .. 12 as about() tells it.", EdgesOfPromises::aheadAsAbout);
        edges.of(23, "BAD: n (0 .. 9), what (3 .. 12).", EdgesOfPromises::badAhead);
        edges.of(24, "NEEDS; NONE.", EdgesOfPromises::needs);
        edges.of(25, "JUDGED; NONE.", EdgesOfPromises::judgedNone);
        edges.of(25, "BAD: n, row (0 or more, 5 n figures at most).", EdgesOfPromises::badJudge);
    }

    private static void aheadAsAbout() {
        SideWords x = heardA("01", 0);
        for (int what = 3; what <= 12; what++) {
            due.is("n 0, what " + what, x.ahead(A, 0, what), x.about(what));
            due.is("n 9, what " + what, x.ahead(A, 9, what), heardA("01", 9).about(what));
        }
        due.is("DUE without SYNC", x.ahead(A, 0, 6), NONE);
        due.is("DUE with it", x.ahead(A, 1, 6), 0);
    }

    private static void badAhead() {
        SideWords x = heardA("01", 1);
        int[] noTimes = {-1, 10, 11, Integer.MIN_VALUE, Integer.MAX_VALUE};
        for (int n : noTimes) {
            due.is("ahead(A, " + n + ", 3)", x.ahead(A, n, 3), BAD);
        }
        int[] noWhat = {-1, 0, 1, 2, 13, 14, 15, 16, 17, 18, Integer.MIN_VALUE, Integer.MAX_VALUE};
        for (int what : noWhat) {
            due.is("ahead(A, 0, " + what + ")", x.ahead(A, 0, what), BAD);
            due.is("ahead(A, 1, " + what + ")", x.ahead(A, 1, what), BAD);
        }
    }

    private static void needs() {
        due.is("never", new SideWords().needs(0), NONE);
        due.is("now", heardA("01", 1).needs(0), 0);
        due.is("once", heardA("01", 0).needs(A), 1);
        // Its first WORDS are spoilt by what stands ahead: a RESET in the midst does not matter.
        SideWords x = heardA("01", 1);
        x.reset();
        due.is("once more behind a RESET", x.needs(A), 1);
    }

    private static void judgedNone() {
        SideWords x = heardA("01", 1);
        due.is("one", x.judge(1, 31000L), NONE);
        due.is("three", x.judge(3, 310002000030000L), NONE);
        due.is("the first", x.judge(3, 300002000030000L), 0);
        due.is("the last", x.judge(3, 310002000031000L), 2);
    }

    private static void badJudge() {
        SideWords x = heardA("01", 1);
        int[] no = {-1, 0, 4, 5, Integer.MIN_VALUE, Integer.MAX_VALUE};
        for (int n : no) {
            due.is("judge(" + n + ", 0)", x.judge(n, 0L), BAD);
            due.is("judge(" + n + ", 31000)", x.judge(n, 31000L), BAD);
        }
        long[] most = {99999L, 9999999999L, 999999999999999L};
        for (int n = 1; n <= 3; n++) {
            due.is("as many figures as can be", x.judge(n, most[n - 1]), 0);
            due.is("one figure more", x.judge(n, most[n - 1] + 1), BAD);
            due.is("the most", x.judge(n, Long.MAX_VALUE), BAD);
            due.is("0", x.judge(n, 0L), 0);
            due.is("less than 0", x.judge(n, -1L), BAD);
            due.is("a row turned below 0", x.judge(n, -31000L), BAD);
            due.is("the least", x.judge(n, Long.MIN_VALUE), BAD);
        }
    }

    // ---- promises 26 to 34

    private static void seenSharesSlots(Edges edges) {
        edges.of(26, "BAD: what (0 .. 2), v (0 .. 9);", EdgesOfPromises::badSee);
        edges.of(26, "FULL: 4.", EdgesOfPromises::fullSeen);
        edges.of(27, "Nothing is SEEN: how much there was.", EdgesOfPromises::unsee);
        edges.of(28, "WHICH.", EdgesOfPromises::which);
        edges.of(29, "UNKNOWN: word (0 .. 3).", EdgesOfPromises::unknownShare);
        edges.of(30, "BAD: n (1, 2), x.", EdgesOfPromises::badChance);
        edges.of(31, "THE SEED is v: what it was.", EdgesOfPromises::seed);
        edges.of(32, "BAD: m.", EdgesOfPromises::badDrawn);
        edges.of(33, "They are kept: HEARD. UNKNOWN.", EdgesOfPromises::keep);
        edges.of(34, "They are as they were kept: HEARD. UNKNOWN;", EdgesOfPromises::again);
        edges.of(34, "LATE: none were kept.", EdgesOfPromises::lateAgain);
    }

    private static void badSee() {
        SideWords x = heardA("01", 0);
        int[] noWhat = {-1, 3, 4, Integer.MIN_VALUE, Integer.MAX_VALUE};
        for (int what : noWhat) {
            due.is("see(A, " + what + ", 0)", x.see(A, what, 0), BAD);
        }
        int[] noV = {-1, 10, 11, Integer.MIN_VALUE, Integer.MAX_VALUE};
        for (int v : noV) {
            due.is("see(A, 0, " + v + ")", x.see(A, 0, v), BAD);
        }
        due.is("nothing is SEEN", x.about(14), 0);
        due.is("the least", x.see(Integer.MIN_VALUE, 0, 0), 1);
        due.is("the most", x.see(Integer.MAX_VALUE, 2, 9), 2);
    }

    private static void fullSeen() {
        SideWords x = heardA("01", 0);
        for (int i = 1; i <= 4; i++) {
            due.is("see", x.see(A, 0, 2), i);
        }
        long was = x.which();
        due.is("a fifth", x.see(A, 0, 9), FULL);
        due.is("it does not count", x.which(), was);
        due.is("unsee()", x.unsee(), 4);
        due.is("room again", x.see(A, 0, 9), 1);
    }

    private static void unsee() {
        SideWords x = heardA("01", 0);
        due.is("none", x.unsee(), 0);
        for (int n = 1; n <= 4; n++) {
            for (int i = 0; i < n; i++) {
                x.see(A, 0, 9);
            }
            due.is("none fits", x.which(), 0);
            due.is("unsee()", x.unsee(), n);
            due.is("twice", x.unsee(), 0);
            due.is("SEEN", x.about(14), 0);
            due.is("all fit again", x.which(), ALL_PLACES);
        }
    }

    private static void which() {
        SideWords x = heardA("09", 1);
        due.is("nothing SEEN", x.which(), ALL_PLACES);
        x.see(A, 2, 1);
        due.is("each bit spoils one", x.which(), ALL_PLACES);
        x.see(A, 2, 2);
        due.is("none spoils two", x.which(), 0);
        x = heardA("01", 1);
        x.see(A, 2, 1);
        long lastWord = 0x3FFFL << 42;
        due.is("HOLD 1: it is lost at once", x.which(), ALL_PLACES);
        x.see(A, 0, 3);
        due.is("three GOOD ones ahead of it: the last WORD's bits", x.which(), lastWord);
        x.unsee();
        x.see(A, 0, 0);
        due.is("bits of the first WORD after which SYNC does not come again", x.which() & ~0x3FFFL, 0);
    }

    private static void unknownShare() {
        SideWords x = heardA("09", 1);
        for (int word : NO_OFFSETS) {
            due.is("share(A, " + word + ", true)", x.share(A, word, true), UNKNOWN);
            due.is("share(A, " + word + ", false)", x.share(A, word, false), UNKNOWN);
        }
        due.is("the first", x.share(A, 0, true), 3);
        due.is("the last", x.share(A, 3, true), 3);
    }

    private static void badChance() {
        SideWords x = heardA("04", 1);
        int[] noTimes = {-1, 0, 3, 4, Integer.MIN_VALUE, Integer.MAX_VALUE};
        for (int n : noTimes) {
            due.is("chance(A, " + n + ", 5, true)", x.chance(A, n, 5, true), BAD);
        }
        int[] noTenths = {-1, 11, 12, Integer.MIN_VALUE, Integer.MAX_VALUE};
        for (int tenths : noTenths) {
            due.is("chance(A, 1, " + tenths + ", true)", x.chance(A, 1, tenths, true), BAD);
            due.is("chance(A, 2, " + tenths + ", false)", x.chance(A, 2, tenths, false), BAD);
        }
        due.is("x 0", x.chance(A, 1, 0, true), 1);
        due.is("x 0", x.chance(A, 2, 0, false), 1);
        due.is("x 10", x.chance(A, 1, 10, true), 0);
        due.is("x 10", x.chance(A, 1, 10, false), 1);
        due.is("the smallest part", x.chance(A, 1, 9, true), 3439);
        due.is("the smallest part", x.chance(A, 1, 9, false), 10000);
    }

    private static void seed() {
        SideWords x = new SideWords();
        long was = 0;
        long[] seeds = {1, -1, Long.MIN_VALUE, Long.MAX_VALUE, 0, 7};
        for (long seed : seeds) {
            due.is("seed(" + seed + ")", x.seed(seed), was);
            was = seed;
        }
        due.is("the same twice", x.seed(7), 7);
    }

    private static void badDrawn() {
        SideWords x = heardA("19", 1);
        int[] no = {-1, 0, 41, 42, Integer.MIN_VALUE, Integer.MAX_VALUE};
        x.seed(5);
        for (int m : no) {
            due.is("drawn(" + m + ")", x.drawn(m), BAD);
        }
        due.is("THE SEED is as it was", x.seed(5), 5);
        due.is("drawn(1)", x.drawn(1), 1);
        due.is("drawn(40)", x.drawn(40), 40);
    }

    private static void keep() {
        SideWords x = heardA("01", 0);
        due.is("keep(0) of nothing HEARD", x.keep(0), 0);
        x.group(A, 9);
        due.is("keep(1)", x.keep(1), 504);
        int[] no = {-1, 2, 3, Integer.MIN_VALUE, Integer.MAX_VALUE};
        for (int slot : no) {
            due.is("keep(" + slot + ")", x.keep(slot), UNKNOWN);
        }
        due.is("keep(1) once more", x.keep(1), 504);
        due.is("ACTS stay", x.about(13), 1);
        due.is("SLOT 0 has nothing HEARD", x.again(0), 0);
        due.is("HEARD", x.about(3), 0);
    }

    private static void again() {
        SideWords x = heardA("01", 1);
        x.keep(0);
        x.group(A, 1);
        x.keep(1);
        x.group(A, 1);
        int[] no = {-1, 2, 3, Integer.MIN_VALUE, Integer.MAX_VALUE};
        for (int slot : no) {
            due.is("again(" + slot + ")", x.again(slot), UNKNOWN);
        }
        due.is("HEARD is as it was", x.about(3), 168);
        due.is("again(0)", x.again(0), 56);
        due.is("again(1)", x.again(1), 112);
        due.is("again(1) twice", x.again(1), 112);
        x.keep(0);
        due.is("kept over", x.again(0), 112);
    }

    private static void lateAgain() {
        SideWords x = heardA("01", 1);
        due.is("again(0)", x.again(0), LATE);
        due.is("again(1)", x.again(1), LATE);
        due.is("HEARD is as it was", x.about(3), 56);
        due.is("ACTS are", x.about(13), 1);
        x.keep(1);
        due.is("the other one", x.again(0), LATE);
        due.is("this one", x.again(1), 56);
        x.station();
        due.is("gone by station()", x.again(1), LATE);
    }
}
