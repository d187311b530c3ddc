import java.util.ArrayList;
import java.util.Collections;
import java.util.List;

/** Part 1 of the document's Terms: one test for each sentence that names an edge. */
final class EdgesOfTerms extends Made {
    private EdgesOfTerms() {
    }

    static void run(Edges edges) {
        wordsAndBursts(edges);
        textAndFault(edges);
        bitByBit(edges);
        withSync(edges);
        groups(edges);
        acts(edges);
    }

    // ---- words and bursts

    private static void wordsAndBursts(Edges edges) {
        edges.of(HEAD, "An object is used for at most 512 calls after it has been made; what later calls answer is "
            + "free.", EdgesOfTerms::calls512);
        edges.of(HEAD, "16383; its highest bit is bit 13, that is heard first)", EdgesOfTerms::wordOf14Bits);
        edges.of(HEAD, "There is a G (an odd number 1 .. 63; 1 at first)", EdgesOfTerms::oddG);
        edges.of(HEAD, "there are four OFFSETS 0 .. 3 (each a number 0 .. 63, all unlike; 0, 1, 2, 3 at first)",
            EdgesOfTerms::fourOffsets);
        edges.of(HEAD, "THE WORD of d (0 .. 255) for OFFSET k: 64 times d, and in its lowest six bits the rest of "
            + "(64 times d) by G, xor OFFSET k.", EdgesOfTerms::wordsOfEdgeBytes);
        edges.of(HEAD, "the rest of (w xor OFFSET k) by G (0 .. 63; 0 just for THE WORD of some d for OFFSET k)",
            EdgesOfTerms::restZeroJustForWords);
        edges.of(HEAD, "DATA of a WORD: its upper eight bits.", EdgesOfTerms::upperEightBits);
        edges.of(HEAD, "A BURST is a set of bits of a WORD (one at least) whose highest and lowest lie less than "
            + "LONG apart (LONG 0 .. 3; 0 at first: there is none).", EdgesOfTerms::burstsByLong);
        edges.of(HEAD, "It is SURE, if its REST is not 0, and no other BURST has the same.",
            EdgesOfTerms::sureByRest);
    }

    private static void calls512() {
        SideWords x = heardA("09", 1);
        for (int call = 16; call <= 512; call++) {
            due.is("call " + call, x.hear(call & 3, call & 255, 0), 1);
        }
        x = heardA("01", 1);
        for (int call = 16; call < 512; call++) {
            x.group(A, 9);
        }
        due.is("GOOD, as much as there can be", x.about(9), 3 + 36 * 496);
    }

    private static void wordOf14Bits() {
        SideWords x = heardA("01", 0);
        due.is("the least WORD", x.rest(0, 0), 10);
        due.is("the greatest WORD", x.rest(0, 16383), divided(16383, G) ^ 10);
        due.is("one less", x.rest(0, -1), BAD);
        due.is("one more", x.rest(0, 16384), BAD);
        x.hear(0, 1, 0);
        due.is("bit 0 came last", x.about(4), 64 + (3 ^ 10));
        x.hear(0, 1, 8192);
        due.is("bit 13 came first", x.about(4), 8192 + 64 + (3 ^ 10));
        x.bits(13, 0);
        due.is("bit 0 is left of it", x.about(4), ((3 ^ 10) & 1) << 13);
    }

    private static void oddG() {
        due.is("at first", new SideWords().about(0), 1);
        for (int g = 0; g <= 99; g++) {
            int want = g > 69 ? 1 : g > 63 || g % 2 == 0 ? 2 : 3;
            due.is("fault with G " + g, faultOf("S" + twoFigures(g)), want);
        }
        due.is("the least G", told("S010001020301").about(0), 1);
        due.is("the greatest G", told("S630001020301").about(0), 63);
        due.is("it divides", told("S630001020301").word(0, 1), 64 + 63);
    }

    private static void fourOffsets() {
        for (int k = 0; k < 4; k++) {
            due.is("at first", new SideWords().offset(k), k);
        }
        String[] three = {"10", "20", "30"};
        for (int at = 0; at < 4; at++) {
            String ahead = "S01" + String.join("", three).substring(0, 2 * at);
            for (int offset = 0; offset <= 99; offset++) {
                boolean like = offset % 10 == 0 && offset > 0 && offset <= 10 * at;
                int want = offset > 69 ? 3 + 2 * at : offset > 63 || like ? 4 + 2 * at : 5 + 2 * at;
                due.is("OFFSET " + at + " of " + offset, faultOf(ahead + twoFigures(offset)), want);
            }
        }
        SideWords x = told("S016300620101");
        int[] want = {63, 0, 62, 1};
        for (int k = 0; k < 4; k++) {
            due.is("OFFSET " + k, x.offset(k), want[k]);
        }
    }

    private static void wordsOfEdgeBytes() {
        SideWords x = heardA("01", 0);
        SideWords y = told("S636300010201");
        for (int k = 0; k < 4; k++) {
            due.is("the least d", x.word(k, 0), 10 * k + 10);
            due.is("the greatest d", x.word(k, 255), 64 * 255 + (divided(64 * 255, G) ^ (10 * k + 10)));
            due.is("the greatest d by G 63", y.word(k, 255), 64 * 255 + (divided(64 * 255, 63) ^ y.offset(k)));
            due.is("d 256", x.word(k, 256), BAD);
            due.is("d -1", x.word(k, -1), BAD);
        }
        due.is("the greatest OFFSET", y.word(0, 0), 63);
    }

    private static void restZeroJustForWords() {
        int[] gs = {1, 3, 39, 63};
        for (int g : gs) {
            for (int from = 0; from <= 16383; from += 128) {
                SideWords x = told("S" + twoFigures(g) + "6300174501");
                for (int w = from; w < from + 128; w++) {
                    int k = w & 3;
                    int rest = x.rest(k, w);
                    boolean isWord = (w & 63) == (divided(w & ~63, g) ^ x.offset(k));
                    due.holds("rest(" + k + ", " + w + ") " + rest, (rest == 0) == isWord && rest >= 0 && rest <= 63);
                }
            }
        }
        SideWords x = told("S396300174501");
        boolean[] came = new boolean[64];
        for (int w = 0; w < 64; w++) {
            came[x.rest(0, w)] = true;
        }
        for (int rest = 0; rest < 64; rest++) {
            due.holds("rest " + rest + " comes", came[rest]);
        }
    }

    private static void upperEightBits() {
        SideWords x = heardA("01", 0);
        due.is("none of them", x.mended(0, 10), 0);
        due.is("all of them", x.mended(1, x.word(1, 255)), 255);
        due.is("the highest", x.mended(2, x.word(2, 128)), 128);
        due.is("the lowest", x.mended(3, x.word(3, 1)), 1);
    }

    private static void burstsByLong() {
        due.is("LONG at first", new SideWords().about(1), 0);
        due.is("none at first", new SideWords().about(16), 0);
        for (int longest = 0; longest <= 3; longest++) {
            SideWords x = heardA(longest + "1", 0);
            due.is("LONG", x.about(1), longest);
            due.is("BURSTS of LONG " + longest, x.about(16), burstsByHand(longest).size());
        }
        due.is("LONG 4", faultOf("S03102030404"), 11);
        due.is("LONG 3", faultOf("S03102030403"), 12);
    }

    private static void sureByRest() {
        for (int g = 1; g <= 63; g += 2) {
            for (int longest = 0; longest <= 3; longest++) {
                SideWords x = told("S" + twoFigures(g) + "10203040" + longest + "1");
                int sure = 0;
                for (int burst : burstsByHand(longest)) {
                    int rest = divided(burst, g);
                    boolean other = false;
                    for (int one : burstsByHand(longest)) {
                        other |= one != burst && divided(one, g) == rest;
                    }
                    boolean isSure = rest != 0 && !other;
                    sure += isSure ? 1 : 0;
                    due.is("BURST " + burst + ", G " + g, x.mended(1, x.word(1, 77) ^ burst), isSure ? 77 : NONE);
                }
                due.is("SURE by G " + g + ", LONG " + longest, x.about(17), sure);
            }
        }
    }

    // ---- THE TEXT

    private static void textAndFault(Edges edges) {
        edges.of(HEAD, "THE TEXT is letters (never more than 40).", EdgesOfTerms::text40);
        edges.of(HEAD, "A STATION is a TEXT of just 13 letters:", EdgesOfTerms::just13Letters);
        edges.of(HEAD, "S, G (two figures), the four OFFSETS (two figures each), LONG (0 .. 3), HOLD (1 .. 9; 1 at "
            + "first).", EdgesOfTerms::figuresOfStation);
        edges.of(HEAD, "FAULT: the place (from 0) of the first letter by which THE TEXT can be no STATION, whatever "
            + "came behind it (its length set aside;", EdgesOfTerms::firstFault);
        edges.of(HEAD, "so a figure of an OFFSET by which it would be like one told ahead in any case,",
            EdgesOfTerms::likeOneAhead);
        edges.of(HEAD, "or more than 63,", EdgesOfTerms::moreThan63);
        edges.of(HEAD, "an even second figure of G);", EdgesOfTerms::evenG);
        edges.of(HEAD, "its length, if it is only not at its end;", EdgesOfTerms::notAtItsEnd);
        edges.of(HEAD, "13, if it is longer;", EdgesOfTerms::longerThan13);
        edges.of(HEAD, "NONE: none.", EdgesOfTerms::noFault);
    }

    private static void text40() {
        SideWords x = new SideWords();
        for (int n = 1; n <= 40; n++) {
            due.is("letter " + n, x.write('x'), n);
        }
        due.is("letter 41", x.write('x'), FULL);
        due.is("40 still", x.about(15), 40);
    }

    private static void just13Letters() {
        String text = "S450915336039";
        for (int n = 0; n <= 16; n++) {
            SideWords x = new SideWords();
            spell(x, (text + "111").substring(0, n));
            due.is(n + " letters", x.station(), n == 13 ? 45 : LATE);
        }
    }

    private static void figuresOfStation() {
        due.is("HOLD at first", new SideWords().about(2), 1);
        due.is("a small s", faultOf("s010001020301"), 0);
        for (int figure = 0; figure <= 9; figure++) {
            due.is("LONG " + figure, faultOf("S0100010203" + figure + "1"), figure <= 3 ? NONE : 11);
            due.is("HOLD " + figure, faultOf("S01000102030" + figure), figure >= 1 ? NONE : 12);
        }
        due.is("the greatest LONG", told("S010001020339").about(1), 3);
        due.is("the greatest HOLD", told("S010001020339").about(2), 9);
        due.is("the least HOLD", told("S010001020331").about(2), 1);
        String good = "S450915336039";
        char[] noFigures = {'/', ':', 0, 255, 'S', ' ', '0' + 128};
        for (int at = 1; at < 13; at++) {
            for (char letter : noFigures) {
                due.is("sign " + (int) letter + " at " + at, faultOf(good.substring(0, at) + letter
                    + good.substring(at + 1)), at);
            }
        }
    }

    private static void firstFault() {
        due.is("of two the first", faultOf("S02xx"), 2);
        due.is("at 0", faultOf("x"), 0);
        due.is("at 0 of many", faultOf("x010001020301"), 0);
        due.is("at 12, the last", faultOf("S010001020300"), 12);
        due.is("it stays behind more letters", faultOf("S01000102034111111111"), 11);
        due.is("also where the text is too long", faultOf("S010001020300" + "1".repeat(27)), 12);
        due.is("7 begins no number", faultOf("S7"), 1);
        due.is("6 does", faultOf("S6"), 2);
    }

    private static void likeOneAhead() {
        due.is("the second like the first", faultOf("S010707"), 6);
        due.is("the third like the first", faultOf("S01070807"), 8);
        due.is("the third like the second", faultOf("S01070808"), 8);
        due.is("the fourth like the first", faultOf("S0107080907"), 10);
        due.is("the fourth like the second", faultOf("S0107080908"), 10);
        due.is("the fourth like the third", faultOf("S0107080909"), 10);
        due.is("an OFFSET like G", faultOf("S0101"), 5);
        due.is("a first figure is never enough: one of 60 .. 63 is left", faultOf("S016061626"), 10);
        due.is("this one", faultOf("S0160616263"), 11);
        due.is("not this one", faultOf("S0160616261"), 10);
    }

    private static void moreThan63() {
        due.is("63", faultOf("S0163"), 5);
        due.is("64", faultOf("S0164"), 4);
        due.is("69", faultOf("S0169"), 4);
        due.is("70: its first figure", faultOf("S0170"), 3);
        due.is("7 alone", faultOf("S017"), 3);
        due.is("the last OFFSET 64", faultOf("S0100010264"), 10);
        due.is("the last OFFSET 7.", faultOf("S01000102701"), 9);
        due.is("G 63", faultOf("S63"), 3);
        due.is("G 65", faultOf("S65"), 2);
    }

    private static void evenG() {
        for (int figure = 0; figure <= 9; figure++) {
            due.is("G 3" + figure, faultOf("S3" + figure), figure % 2 == 0 ? 2 : 3);
        }
        due.is("an even first figure is none", faultOf("S41"), 3);
        due.is("an even OFFSET is none", faultOf("S4142"), 5);
    }

    private static void notAtItsEnd() {
        String good = "S630001620301";
        for (int n = 0; n < 13; n++) {
            due.is("the first " + n + " letters", faultOf(good.substring(0, n)), n);
        }
    }

    private static void longerThan13() {
        for (int more = 1; more <= 27; more++) {
            due.is(more + " letters more", faultOf("S630001620301" + "S".repeat(more)), 13);
        }
    }

    private static void noFault() {
        due.is("the least numbers", faultOf("S010001020301"), NONE);
        due.is("the greatest numbers", faultOf("S636362616039"), NONE);
    }

    // ---- without SYNC

    private static void bitByBit(Edges edges) {
        edges.of(HEAD, "THE WINDOW: the last 14 bits (0 at first).", EdgesOfTerms::windowAtFirst);
        edges.of(HEAD, "THE WINDOW becomes 2 times itself and the bit, its lowest 14 bits;",
            EdgesOfTerms::windowForgets);
        edges.of(HEAD, "Without SYNC (so at first): if SINCE is 14 or more,", EdgesOfTerms::since14);
        edges.of(HEAD, "REST of THE WINDOW for an OFFSET k (of the least such, but no two can be) is 0, there is a "
            + "HIT (HEARD, k).", EdgesOfTerms::noTwoOffsets);
        edges.of(HEAD, "If there was a LAST HIT (h, j), and HEARD less h is 14 times m, m 1 .. 4,",
            EdgesOfTerms::wordsApart);
        edges.of(HEAD, "and k is what is left of (j and m together) by 4:", EdgesOfTerms::offsetsThatFit);
        edges.of(HEAD, "DUE is what is left of (k and 1) by 4, PHASE, BADS are 0, all PARTS are gone, GOOD is one "
            + "more, DATA of THE WINDOW is PART k (and a GROUP is looked at, if k is 3).", EdgesOfTerms::syncFound);
        edges.of(HEAD, "Else this HIT is the LAST HIT.", EdgesOfTerms::elseTheLastHit);
    }

    private static void windowAtFirst() {
        due.is("at first", new SideWords().about(4), 0);
        SideWords x = new SideWords();
        x.bits(14, 16383);
        due.is("14 bits", x.about(4), 16383);
        spell(x, "S010001020301");
        x.station();
        due.is("of a new station", x.about(4), 0);
    }

    private static void windowForgets() {
        SideWords x = heardA("01", 0);
        x.bits(1, 1);
        for (int i = 1; i <= 13; i++) {
            x.bits(1, 0);
            due.is("behind " + i + " zeros", x.about(4), 1 << i);
        }
        x.bits(1, 0);
        due.is("a fifteenth bit", x.about(4), 0);
        x.bits(14, 16383);
        x.bits(1, 1);
        due.is("it is never more than 14 bits", x.about(4), 16383);
        due.is("HEARD", x.about(3), 30);
    }

    private static void since14() {
        for (String row : rowsFromZero()) {
            due.is("14 bits and a WORD", hearRow(heardA("01", 0), row), 1);
            due.is("13 bits and a WORD", hearRow(heardA("01", 0), row.substring(1)), 0);
        }
        due.is("at first there is no SYNC", new SideWords().about(5), 0);
        String row = quietRow(new int[] {0, 1}, new int[] {9, 0});
        due.is("more than 14 bits", hearRow(heardA("01", 0), row), 1);
    }

    private static void noTwoOffsets() {
        for (int w = 0; w <= 16383; w += 97) {
            SideWords x = told("S390017456301");
            int zeros = 0;
            for (int k = 0; k < 4; k++) {
                zeros += x.rest(k, w) == 0 ? 1 : 0;
            }
            due.holds("OFFSETS for " + w, zeros <= 1);
        }
        for (int k = 0; k < 4; k++) {
            String row = quietRow(new int[] {k, k + 1 & 3}, new int[] {0, 0});
            due.is("HITS for each OFFSET", hearRow(heardA("01", 0), row), 1);
        }
    }

    private static void wordsApart() {
        for (int m = 1; m <= 5; m++) {
            String row = quietRow(new int[] {2, 2 + m & 3}, new int[] {0, 14 * (m - 1)});
            due.is("m " + m, hearRow(heardA("01", 0), row), m <= 4 ? 1 : 0);
        }
        String eight = quietRow(new int[] {2, 2}, new int[] {0, 14 * 7});
        due.is("m 8", hearRow(heardA("01", 0), eight), 0);
        for (int more = 1; more <= 13; more++) {
            for (int k = 0; k < 4; k++) {
                String row = quietRow(new int[] {2, k}, new int[] {0, more});
                due.is("14 and " + more + " bits apart", hearRow(heardA("01", 0), row), 0);
            }
        }
        String first = quietRow(new int[] {2}, new int[] {3});
        due.is("no LAST HIT", hearRow(heardA("01", 0), first), 0);
        SideWords zeros = new SideWords();
        for (int i = 0; i < 20; i++) {
            due.is("HITS one bit apart", zeros.bits(14, 0), 0);
        }
    }

    private static void offsetsThatFit() {
        for (int j = 0; j < 4; j++) {
            for (int m = 1; m <= 4; m++) {
                for (int k = 0; k < 4; k++) {
                    String row = quietRow(new int[] {j, k}, new int[] {0, 14 * (m - 1)});
                    due.is(j + " and " + k + " behind " + m, hearRow(heardA("01", 0), row), k == (j + m) % 4 ? 1 : 0);
                }
            }
        }
    }

    private static void syncFound() {
        for (int k = 0; k < 4; k++) {
            String row = quietRow(new int[] {k + 3 & 3, k}, new int[] {0, 0});
            SideWords x = heardA("01", 0);
            due.is("SYNC by " + k, hearRow(x, row), 1);
            due.is("DUE", x.about(6), (k + 1) % 4);
            due.is("PHASE", x.about(7), 0);
            due.is("BADS", x.about(8), 0);
            due.is("GOOD", x.about(9), 1);
            due.is("PARTS", x.told(6), 1 << k);
            due.is("PART", x.part(k), lastData(row));
            due.is("no PART 0, so no CANDIDATE", x.told(1), NONE);
        }
    }

    private static void elseTheLastHit() {
        String row = quietRow(new int[] {0, 0, 1}, new int[] {0, 0, 0});
        due.is("the newer HIT fits", hearRow(heardA("01", 0), row), 1);
        due.is("not yet behind it", hearRow(heardA("01", 0), row.substring(0, 28)), 0);
        row = quietRow(new int[] {0, 3, 2}, new int[] {0, 0, 0});
        due.is("the older HIT is no more", hearRow(heardA("01", 0), row), 0);
        row = quietRow(new int[] {0, 3, 1}, new int[] {0, 5, 0});
        due.is("two that fit nothing", hearRow(heardA("01", 0), row), 0);
    }

    // ---- with SYNC

    private static void withSync(Edges edges) {
        edges.of(HEAD, "With SYNC: PHASE is one more; if it is 14 then, it is 0,", EdgesOfTerms::phase14);
        edges.of(HEAD, "THE WINDOW is a BLOCK of OFFSET DUE: if DUE is 0, all PARTS are gone.",
            EdgesOfTerms::partsGoneAtDue0);
        edges.of(HEAD, "If its REST for OFFSET DUE is 0: GOOD is one more, BADS are 0, its DATA is PART DUE.",
            EdgesOfTerms::goodBlock);
        edges.of(HEAD, "MENDED is one more (BADS stay), PART DUE is DATA of the WORD in which just those bits are "
            + "turned.", EdgesOfTerms::mendedBlock);
        edges.of(HEAD, "Else SPOILT is one more, BADS are, PART DUE is gone; if BADS are HOLD then, SYNC is LOST.",
            EdgesOfTerms::holdMet);
        edges.of(HEAD, "If it is not, a GROUP is looked at, if DUE is 3; then DUE is the next one (0 behind 3).",
            EdgesOfTerms::behindDue3);
        edges.of(HEAD, "LOST: there is no SYNC, no LAST HIT, SINCE is 0, all PARTS are gone.", EdgesOfTerms::lost);
    }

    private static void phase14() {
        SideWords x = heardA("01", 1);
        int word = wordByHand(0, 128);
        for (int i = 1; i <= 13; i++) {
            due.is("SYNC", x.bits(1, word >> (14 - i) & 1), 1);
            due.is("PHASE", x.about(7), i);
            due.is("DUE", x.about(6), 0);
            due.is("GOOD", x.about(9), 3);
        }
        x.bits(1, word & 1);
        due.is("PHASE behind 13", x.about(7), 0);
        due.is("DUE", x.about(6), 1);
        due.is("GOOD", x.about(9), 4);
    }

    private static void partsGoneAtDue0() {
        SideWords x = heardA("09", 1);
        x.bits(13, wordByHand(0, 7) >> 1);
        due.is("not ahead of its last bit", x.told(6), 14);
        x.bits(1, wordByHand(0, 7) & 1);
        due.is("PART 0 alone", x.told(6), 1);
        x = heardA("09", 1);
        x.hear(0, 7, SPOIL);
        due.is("a spoilt one clears them, too", x.told(6), 0);
        x.hear(1, 7, 0);
        x.hear(2, 7, SPOIL);
        due.is("none at DUE 2", x.told(6), 2);
        x.hear(3, 7, 0);
        due.is("none at DUE 3", x.told(6), 10);
    }

    private static void goodBlock() {
        SideWords x = heardA("09", 1);
        x.hear(0, 7, SPOIL);
        x.hear(1, 7, SPOIL);
        due.is("BADS", x.about(8), 2);
        x.hear(2, 0, 0);
        due.is("GOOD", x.about(9), 4);
        due.is("BADS", x.about(8), 0);
        due.is("PART 2 is there, as 0", x.part(2), 0);
        x.hear(0, 0, 0);
        due.is("a WORD of another OFFSET is none", x.about(9), 4);
        due.is("but SPOILT", x.about(11), 3);
        x.hear(0, 255, 0);
        due.is("PART 0 is 255", x.part(0), 255);
    }

    private static void mendedBlock() {
        for (int bit = 0; bit < 14; bit++) {
            SideWords x = heardA("13", 1);
            x.hear(0, 7, SPOIL);
            x.hear(1, 200, 1 << bit);
            due.is("MENDED bit " + bit, x.about(10), 1);
            due.is("BADS stay", x.about(8), 1);
            due.is("GOOD", x.about(9), 3);
            due.is("PART 1", x.part(1), 200);
        }
        SideWords x = heardA("13", 1);
        x.hear(0, 7, 3);
        due.is("mended to another one", x.part(0), 6);
    }

    private static void holdMet() {
        for (int hold = 1; hold <= 9; hold++) {
            SideWords x = heardA("0" + hold, 1);
            for (int bad = 1; bad < hold; bad++) {
                due.is("held over " + bad, x.hear(bad - 1 & 3, 7, SPOIL), 1);
                due.is("BADS", x.about(8), bad);
                due.is("SPOILT", x.about(11), bad);
                due.is("its PART is gone", x.part(bad - 1 & 3), NONE);
                due.is("LOSSES", x.about(12), 0);
            }
            due.is("lost at HOLD " + hold, x.hear(hold - 1 & 3, 7, SPOIL), 0);
            due.is("SPOILT", x.about(11), hold);
            due.is("LOSSES", x.about(12), 1);
            due.is("BADS", x.about(8), NONE);
        }
    }

    private static void behindDue3() {
        SideWords x = heardA("02", 1);
        for (int k = 0; k < 4; k++) {
            due.is("DUE", x.about(6), k);
            x.hear(k, 7, 0);
            due.is("the GROUP is looked at behind DUE 3", x.told(1), k < 3 ? NONE : 7);
        }
        due.is("0 behind 3", x.about(6), 0);
        for (int k = 0; k < 4; k++) {
            x.hear(k, 9, k == 3 ? SPOIL : 0);
        }
        due.is("looked at, its last BLOCK SPOILT", x.told(1), 9);
        x = heardA("01", 1);
        for (int k = 0; k < 4; k++) {
            x.hear(k, 9, k == 3 ? SPOIL : 0);
        }
        due.is("LOST by its last BLOCK: not looked at", x.told(1), NONE);
    }

    private static void lost() {
        SideWords x = heardA("01", 0);
        String row = quietRow(new int[] {0, 1}, new int[] {0, 0});
        due.is("SYNC", hearRow(x, row), 1);
        due.is("PARTS", x.told(6), 2);
        due.is("LOST", x.hear(2, 5, SPOIL), 0);
        due.is("PARTS are gone", x.told(6), 0);
        due.is("DUE", x.about(6), NONE);
        due.is("no LAST HIT: this one would fit each of the two", x.hear(3, 5, 0), 0);
        for (String words : rowsFromZero()) {
            due.is("14 bits behind the loss", hearRow(lostBehindZero(), words), 1);
            due.is("13 bits behind the loss", hearRow(lostBehindZero(), words.substring(1)), 0);
        }
    }

    /** SYNC was LOST just now, and the last bit was 0. */
    private static SideWords lostBehindZero() {
        SideWords x = heardA("01", 1);
        int word = wordByHand(0, 128);
        due.is("lost", x.bits(14, word ^ ((word & 1) == 1 ? 1 : 2)), 0);
        due.is("the last bit", x.about(4) & 1, 0);
        return x;
    }

    // ---- GROUPS

    private static void groups(Edges edges) {
        edges.of(HEAD, "A GROUP is looked at, by those of PARTS 0 .. 3 that are there:", EdgesOfTerms::partsThere);
        edges.of(HEAD, "PART 0: if it is THE CANDIDATE for it, it is THE PROGRAM; it is THE CANDIDATE then.",
            EdgesOfTerms::program);
        edges.of(HEAD, "PART 1, b: its KIND is b by 64 (cut), LOW what is left.", EdgesOfTerms::kinds);
        edges.of(HEAD, "KIND 0, if PARTS 2, 3 are there: PAIR is 256 times PART 2 and PART 3, PLACE what is left of "
            + "LOW by 4:", EdgesOfTerms::pairsAndPlaces);
        edges.of(HEAD, "if PAIR is the CANDIDATE of that PLACE, NAME has it at that PLACE; it is its CANDIDATE then.",
            EdgesOfTerms::pairTwice);
        edges.of(HEAD, "KIND 1, if PARTS 2 (0 .. 23) and 3 (0 .. 59) are there: THE CLOCK is 60 times PART 2 and PART "
            + "3.", EdgesOfTerms::clock);
        edges.of(HEAD, "KIND 2: PART 2, then PART 3, each if it is there and 1 .. 204:", EdgesOfTerms::stations204);
        edges.of(HEAD, "that STATION is HEARD OF once more (99 at most);", EdgesOfTerms::heardOf99);
        edges.of(HEAD, "one that was not yet comes to THE LIST, if there are not 8.", EdgesOfTerms::listOf8);
        edges.of(HEAD, "KIND 3: FLAG is what is left of LOW by 2; if it was another one (0 at first), NAME and all "
            + "CANDIDATES of PLACES are gone.", EdgesOfTerms::flag);
    }

    /** The four WORDS of a GROUP, those of a set SPOILT. */
    private static void hearWithout(SideWords x, int group, int spoilt) {
        for (int k = 0; k < 4; k++) {
            x.hear(k, byteOf(group, k), (spoilt >> k & 1) == 1 ? SPOIL : 0);
        }
    }

    private static void partsThere() {
        for (int spoilt = 0; spoilt < 16; spoilt++) {
            SideWords x = heardA("09", 1);
            hearWithout(x, groupOf(50, 0x80, 60, 70), spoilt);
            due.is("PARTS", x.told(6), 15 ^ spoilt);
            due.is("THE CANDIDATE", x.told(1), (spoilt & 1) == 0 ? 50 : NONE);
            int two = (spoilt & 2) == 2 ? 0 : 2 - (spoilt >> 2 & 1) - (spoilt >> 3);
            due.is("THE LIST", x.told(4), two);
        }
    }

    private static void program() {
        int[] edges = {0, 255, 128};
        for (int a : edges) {
            SideWords x = heardA("09", 1);
            due.is("none yet", x.told(1), NONE);
            x.group(groupOf(a, 0xC0, 0, 0), 1);
            due.is("once", x.told(0), NONE);
            due.is("once", x.told(1), a);
            x.group(groupOf(a, 0xC0, 0, 0), 1);
            due.is("twice", x.told(0), a);
            x.group(groupOf(7, 0xC0, 0, 0), 1);
            x.group(groupOf(9, 0xC0, 0, 0), 1);
            x.group(groupOf(7, 0xC0, 0, 0), 1);
            due.is("not one behind the other", x.told(0), a);
            due.is("the last one", x.told(1), 7);
            hearWithout(x, groupOf(7, 0xC0, 0, 0), 1);
            due.is("one that is not there is none", x.told(0), a);
            x.group(groupOf(7, 0xC0, 0, 0), 1);
            due.is("and leaves THE CANDIDATE", x.told(0), 7);
        }
    }

    private static void kinds() {
        for (int b = 0; b <= 255; b++) {
            SideWords x = heardA("09", 1);
            int was = x.name(b & 3, true);
            x.group(groupOf(1, b, 5, 6), 1);
            int kind = b / 64;
            int pair = kind == 0 ? 5 * 256 + 6 : kind == 3 && b % 2 == 1 ? NONE : was;
            due.is("KIND 0 by " + b, x.name(b & 3, true), pair);
            due.is("KIND 1 by " + b, x.told(2), kind == 1 ? 306 : NONE);
            due.is("KIND 2 by " + b, x.told(4), kind == 2 ? 2 : 0);
            due.is("KIND 3 by " + b, x.told(3), kind == 3 ? b % 2 : 0);
        }
    }

    private static void pairsAndPlaces() {
        for (int low = 0; low < 64; low++) {
            SideWords x = heardA("09", 1);
            x.group(groupOf(1, low, 255, 255), 2);
            due.is("the greatest PAIR, LOW " + low, x.name(low % 4, false), 65535);
            x.group(groupOf(1, low, 0, 0), 2);
            due.is("the least PAIR", x.name(low % 4, false), 0);
            due.is("it is there", x.told(5), 1 << low % 4);
        }
        for (int spoilt = 4; spoilt <= 12; spoilt += 4) {
            SideWords x = heardA("09", 1);
            hearWithout(x, groupOf(1, 2, 8, 9), spoilt);
            due.is("not without PARTS 2 and 3", x.name(2, true), NONE);
        }
    }

    private static void pairTwice() {
        SideWords x = heardA("09", 1);
        x.group(groupOf(1, 2, 8, 9), 1);
        due.is("once", x.name(2, false), NONE);
        due.is("its CANDIDATE", x.name(2, true), 2057);
        x.group(groupOf(1, 1, 8, 9), 1);
        due.is("at another PLACE", x.told(5), 0);
        x.group(groupOf(1, 2, 8, 10), 1);
        x.group(groupOf(1, 2, 8, 9), 1);
        due.is("not one behind the other", x.told(5), 0);
        x.group(groupOf(1, 0xC0, 0, 0), 1);
        x.group(groupOf(1, 2, 8, 9), 1);
        due.is("twice", x.name(2, false), 2057);
        x.group(groupOf(1, 2, 8, 10), 1);
        due.is("NAME stays", x.name(2, false), 2057);
        due.is("its CANDIDATE", x.name(2, true), 2058);
        x.group(groupOf(1, 2, 8, 10), 1);
        due.is("another one twice", x.name(2, false), 2058);
    }

    private static void clock() {
        int[][] times = {{0, 0, 0}, {23, 59, 1439}, {23, 0, 1380}, {0, 59, 59}, {24, 0, NONE}, {0, 60, NONE},
            {255, 255, NONE}, {24, 60, NONE}, {23, 60, NONE}, {24, 59, NONE}};
        for (int[] time : times) {
            SideWords x = heardA("09", 1);
            x.group(groupOf(1, 0x40, time[0], time[1]), 1);
            due.is("THE CLOCK by " + time[0] + ", " + time[1], x.told(2), time[2]);
            x.group(groupOf(1, 0x40, 12, 30), 1);
            x.group(groupOf(1, 0x40, time[0], time[1]), 1);
            due.is("one that can not be leaves it", x.told(2), time[2] == NONE ? 750 : time[2]);
            for (int spoilt = 4; spoilt <= 12; spoilt += 4) {
                int was = x.told(2);
                hearWithout(x, groupOf(1, 0x40, 1, 1), spoilt);
                due.is("not without PARTS 2 and 3", x.told(2), was);
            }
        }
    }

    private static void stations204() {
        int[] stations = {0, 1, 2, 203, 204, 205, 255};
        for (int station : stations) {
            SideWords x = heardA("09", 1);
            boolean can = station >= 1 && station <= 204;
            x.group(groupOf(1, 0x80, station, 0), 1);
            due.is("PART 2 as " + station, x.list(0, false), can ? station : NONE);
            x.group(groupOf(1, 0x80, 205, station), 1);
            due.is("PART 3 as " + station, x.list(0, true), can ? 2 : NONE);
        }
        SideWords x = heardA("09", 1);
        hearWithout(x, groupOf(1, 0x80, 5, 6), 4);
        due.is("PART 2 is not there", x.list(0, false), 6);
        hearWithout(x, groupOf(1, 0x80, 6, 7), 8);
        due.is("PART 3 is not there", x.told(4), 1);
        due.is("PART 2 is", x.list(0, true), 2);
    }

    private static void heardOf99() {
        SideWords x = heardA("09", 1);
        for (int i = 1; i <= 49; i++) {
            x.group(groupOf(1, 0x80, 8, 8), 1);
            due.is("twice in each GROUP", x.list(0, true), 2 * i);
        }
        x.group(groupOf(1, 0x80, 8, 0), 1);
        due.is("99", x.list(0, true), 99);
        x.group(groupOf(1, 0x80, 8, 9), 1);
        due.is("not 100", x.list(0, true), 99);
        due.is("others go on", x.list(1, true), 1);
        x.group(groupOf(1, 0x80, 8, 8), 9);
        due.is("99 at most", x.list(0, true), 99);
    }

    private static void listOf8() {
        SideWords x = heardA("09", 1);
        for (int i = 1; i <= 7; i++) {
            x.group(groupOf(1, 0x80, 10 * i, 0), 1);
            due.is("in THE LIST", x.told(4), i);
        }
        x.group(groupOf(1, 0x80, 80, 90), 1);
        due.is("PART 2 is the eighth, PART 3 comes too late", x.told(4), 8);
        due.is("the eighth", x.list(7, false), 80);
        due.is("no ninth", x.list(8, false), NONE);
        x.group(groupOf(1, 0x80, 90, 90), 9);
        due.is("nor later", x.list(0, true), 1);
        x.group(groupOf(1, 0x80, 90, 40), 1);
        due.is("one of the eight is HEARD OF still", x.list(0, false), 40);
        due.is("twice", x.list(0, true), 2);
    }

    private static void flag() {
        SideWords x = heardA("09", 3);
        x.group(groupOf(1, 1, 8, 9), 1);
        due.is("at first", x.told(3), 0);
        x.group(groupOf(1, 0xFE, 0, 0), 1);
        due.is("0 as it was, by LOW 62", x.told(3), 0);
        due.is("NAME stays", x.told(5), 8);
        due.is("a CANDIDATE stays", x.name(1, true), 2057);
        x.group(groupOf(1, 0xFF, 0, 0), 1);
        due.is("1 by LOW 63", x.told(3), 1);
        for (int place = 0; place < 4; place++) {
            due.is("NAME is gone", x.name(place, false), NONE);
            due.is("CANDIDATES are gone", x.name(place, true), NONE);
        }
        x.group(A, 2);
        x.group(groupOf(1, 0xC1, 0, 0), 1);
        due.is("1 as it was", x.told(5), 8);
        x.group(groupOf(1, 0xC0, 0, 0), 1);
        due.is("0 again", x.told(3), 0);
        due.is("NAME is gone", x.told(5), 0);
        due.is("CANDIDATES are gone", x.name(3, true), NONE);
    }

    // ---- ACTS

    private static void acts(Edges edges) {
        edges.of(HEAD, "ACTS (BITS; a WORD; a GROUP; RESET) are a row (never more than 14; if it has 14, the first "
            + "one is forgotten ahead of the next); the last one can be undone.", EdgesOfTerms::acts14);
        edges.of(HEAD, "Each that is not refused is an ACT.", EdgesOfTerms::refusedIsNoAct);
    }

    private static void acts14() {
        SideWords x = heardA("01", 0);
        for (int i = 1; i <= 13; i++) {
            x.bits(1, 1);
        }
        due.is("13", x.about(13), 13);
        x.bits(1, 1);
        due.is("14", x.about(13), 14);
        x.bits(1, 1);
        due.is("14 at most", x.about(13), 14);
        x.bits(1, 1);
        List<Integer> heard = new ArrayList<>();
        for (int left = 13; left >= 0; left--) {
            due.is("undo()", x.undo(), left);
            heard.add(x.about(3));
        }
        due.is("the first two are forgotten", Collections.min(heard), 2);
        due.is("undo()", x.undo(), LATE);
        for (int i = 0; i < 31; i++) {
            x.bits(2, 1);
        }
        due.is("row by row", x.undo(), 13);
        due.is("row by row", x.about(3), 2 + 60);
        x.bits(3, 1);
        due.is("14 again", x.about(13), 14);
        due.is("the newest one is undone", x.undo(), 13);
        due.is("the newest one is undone", x.about(3), 62);
    }

    private static void refusedIsNoAct() {
        SideWords x = heardA("01", 0);
        x.bits(1, 1);
        due.is("BITS", x.about(13), 1);
        x.hear(0, 0, 0);
        due.is("a WORD", x.about(13), 2);
        x.group(A, 9);
        due.is("a GROUP, however often", x.about(13), 3);
        x.reset();
        due.is("RESET", x.about(13), 4);
        x.bits(0, 0);
        x.bits(15, 0);
        x.bits(1, 2);
        x.hear(4, 0, 0);
        x.hear(0, 256, 0);
        x.hear(0, 0, 16384);
        x.group(A, 0);
        x.group(A, 10);
        due.is("what is refused is none", x.about(13), 4);
        x.keep(0);
        x.seed(1);
        x.drawn(3);
        x.see(A, 0, 0);
        x.write('x');
        x.wipe();
        x.ahead(A, 1, 3);
        x.judge(1, 20000);
        due.is("nor is anything else", x.about(13), 4);
    }
}
