import java.util.Random;

/** Runs of calls by fixed seeds, each answer held against PlainModel's; and that the runs came far enough. */
public final class ModelRuns {
    private static final int RUNS = 400, CALLS = 256;
    private static final int[] ODD_ONES = {Integer.MIN_VALUE, -9, -1, 41, 256, 16384, Integer.MAX_VALUE};

    private final Random random;
    private final Due due;
    private final SideWords x = new SideWords();
    private final PlainModel y = new PlainModel();
    private final int[] groups = new int[6];
    /** What the runs came by, so that a test that sees too little is not taken for a good one. */
    private static final int[] came = new int[16];

    private ModelRuns(long seed, Due due) {
        this.random = new Random(seed);
        this.due = due;
        due.about("seed " + seed);
    }

    public static void main(String[] args) {
        Due due = new Due();
        for (int run = 0; run < RUNS && due.wrong() == 0; run++) {
            new ModelRuns(1000 + run, due).go(run);
        }
        due.about("what the runs came by");
        String[] things = {"SYNC", "MENDED", "SPOILT", "LOSSES", "a full ACTS", "THE PROGRAM", "THE CLOCK", "FLAG 1",
            "a full LIST", "a NAME", "99 times HEARD OF", "BADS over 3", "a full SEEN", "some WHICH", "again",
            "a SHARE below 0"};
        for (int i = 0; i < things.length; i++) {
            due.holds(things[i] + " came " + came[i] + " times", came[i] >= 20);
        }
        due.end();
    }

    private int below(int n) {
        return random.nextInt(n);
    }

    /** Most often 0 .. n - 1; now and then just outside, or far. */
    private int mostlyBelow(int n) {
        int way = below(40);
        if (way == 0) {
            return n;
        }
        if (way == 1) {
            return -1;
        }
        return way == 2 ? ODD_ONES[below(ODD_ONES.length)] : below(n);
    }

    private void go(int run) {
        int longest = run % 4;
        newGroups();
        if (run % 7 != 0) {
            tellStation(longest);
        }
        for (int i = 0; i < CALLS && due.wrong() == 0; i++) {
            step();
            if (i % 8 == 0) {
                lookAtAll();
            }
            noteWhatCame();
        }
        if (run % 10 == 3) {
            hearOfOneOften();
        }
    }

    private void hearOfOneOften() {
        tellStation(below(4));
        int group = 0x11800707 | below(256) << 24;
        for (int i = 0; i < 14; i++) {
            due.is("group(" + group + ", 9)", x.group(group, 9), y.group(group, 9));
            lookAtAll();
            noteWhatCame();
        }
    }

    private void newGroups() {
        int a = below(256);
        for (int i = 0; i < groups.length; i++) {
            int b = (i % 4) << 6 | below(64);
            int few = below(3) == 0 ? 256 : 24;
            int c = below(few);
            groups[i] = a << 24 | b << 16 | c << 8 | (below(4) == 0 ? c : below(few));
        }
    }

    private int someGroup() {
        if (below(8) == 0) {
            newGroups();
        }
        return below(10) == 0 ? random.nextInt() : groups[below(groups.length)];
    }

    private void tellStation(int longest) {
        StringBuilder told = new StringBuilder("S");
        told.append(twoFigures(2 * below(32) + 1));
        for (int k = 0; k < 4; k++) {
            told.append(twoFigures(below(64)));
        }
        told.append(longest).append(1 + below(9));
        due.is("wipe()", x.wipe(), y.wipe());
        for (int i = 0; i < told.length(); i++) {
            letter(told.charAt(i));
        }
        due.is("station()", x.station(), y.station());
    }

    private static String twoFigures(int v) {
        return "" + v / 10 + v % 10;
    }

    private void letter(int letter) {
        due.is("write(" + letter + ")", x.write(letter), y.write(letter));
        due.is("fault()", x.fault(), y.fault());
    }

    private void step() {
        int way = below(100);
        if (way < 45) {
            act(way);
        } else if (way < 60) {
            ask(way - 45);
        } else if (way < 70) {
            words(way - 60);
        } else if (way < 80) {
            seeOrDraw(way - 70);
        } else if (way < 84) {
            slots(way & 1);
        } else if (way < 90) {
            text(way);
        } else {
            fitWord();
        }
    }

    private void act(int way) {
        if (way < 14) {
            int group = someGroup();
            int n = below(3) == 0 ? mostlyBelow(10) : 1 + below(3);
            due.is("group(" + group + ", " + n + ")", x.group(group, n), y.group(group, n));
        } else if (way < 20) {
            int n = mostlyBelow(15);
            int v = n >= 0 && n < 15 && below(10) != 0 ? below(1 << n) : mostlyBelow(16384);
            due.is("bits(" + n + ", " + v + ")", x.bits(n, v), y.bits(n, v));
        } else if (way < 36) {
            fitWord();
        } else if (way < 38) {
            due.is("reset()", x.reset(), y.reset());
        } else if (way < 41) {
            due.is("undo()", x.undo(), y.undo());
        } else {
            int k = mostlyBelow(4);
            int d = mostlyBelow(256);
            int mask = mostlyBelow(16384);
            due.is("hear(" + k + ", " + d + ", " + mask + ")", x.hear(k, d, mask), y.hear(k, d, mask));
        }
    }

    /** A WORD where it is due, whole or with a few bits turned. */
    private void fitWord() {
        int k = x.about(6) >= 0 ? x.about(6) : below(4);
        int d = groups[below(3)] >>> (24 - 8 * k) & 255;
        int mask = 0;
        int spoil = below(4);
        if (spoil == 1) {
            mask = (1 + below(7)) << below(12);
        } else if (spoil == 2 && below(3) == 0) {
            mask = below(16384);
        }
        due.is("hear(" + k + ", " + d + ", " + mask + ")", x.hear(k, d, mask), y.hear(k, d, mask));
    }

    private void ask(int way) {
        int group = someGroup();
        if (way < 4) {
            int n = mostlyBelow(10);
            int what = below(10) == 0 ? mostlyBelow(20) : 3 + below(10);
            due.is("ahead(" + group + ", " + n + ", " + what + ")", x.ahead(group, n, what), y.ahead(group, n, what));
        } else if (way < 7) {
            due.is("needs(" + group + ")", x.needs(group), y.needs(group));
        } else {
            int n = mostlyBelow(4);
            long row = row(n);
            due.is("judge(" + n + ", " + row + ")", x.judge(n, row), y.judge(n, row));
        }
    }

    private long row(int n) {
        if (below(20) == 0) {
            return random.nextLong() >> below(64);
        }
        long row = 0;
        for (int i = 0; i < Math.min(n, 3); i++) {
            row = row * 100000 + doing();
        }
        return row;
    }

    private int doing() {
        int k = below(4);
        switch (below(9)) {
            case 0: return 20000;
            case 1: return 30000 + 1000 * x.about(5);
            case 2: return 40000 + 1000 * k + 100 * (x.told(5) >> k & 1);
            case 3: return 50000 + 1000 * k + Math.max(0, x.part(k));
            case 4: return 60000 + Math.max(0, x.told(0));
            case 5: return 10000 * below(8) + 1000 * mostlyBelow(5) % 10000 + below(3) * 100;
            case 6: return below(100000);
            default: return 10000 + 1000 * (x.about(6) >= 0 ? x.about(6) : k) + below(257);
        }
    }

    private void words(int way) {
        int k = mostlyBelow(4);
        int d = mostlyBelow(256);
        int w = mostlyBelow(16384);
        switch (way) {
            case 0:
                due.is("distance()", x.distance(), y.distance());
                break;
            case 1:
                int n = mostlyBelow(5);
                int what = mostlyBelow(4);
                due.is("flips(" + n + ", " + what + ")", x.flips(n, what), y.flips(n, what));
                break;
            case 2: case 3: case 4:
                int e = mostlyBelow(256);
                due.is("slips(" + k + ", " + d + ", " + e + ")", x.slips(k, d, e), y.slips(k, d, e));
                break;
            default:
                due.is("word(" + k + ", " + d + ")", x.word(k, d), y.word(k, d));
                due.is("rest(" + k + ", " + w + ")", x.rest(k, w), y.rest(k, w));
                due.is("mended(" + k + ", " + w + ")", x.mended(k, w), y.mended(k, w));
                break;
        }
    }

    private void seeOrDraw(int way) {
        int group = someGroup();
        int n = mostlyBelow(3);
        boolean upper = random.nextBoolean();
        switch (way) {
            case 0: case 1: case 2:
                int what = mostlyBelow(3);
                int v = below(4) == 0 ? mostlyBelow(10) : below(4);
                due.is("see(" + group + ", " + what + ", " + v + ")", x.see(group, what, v), y.see(group, what, v));
                long which = y.which();
                due.is("which()", x.which(), which);
                came[13] += which != 0 && which != (1L << 56) - 1 ? 1 : 0;
                break;
            case 3:
                due.is("unsee()", x.unsee(), y.unsee());
                break;
            case 4: case 5:
                int word = mostlyBelow(4);
                int above = y.share(group, word, true);
                due.is("share(" + group + ", " + word + ", true)", x.share(group, word, true), above);
                came[15] += word >= 0 && word < 4 && above < 0 ? 1 : 0;
                due.is("share(" + group + ", " + word + ", false)", x.share(group, word, false),
                    y.share(group, word, false));
                break;
            case 6:
                int c = mostlyBelow(11);
                due.is("chance(" + group + ", " + n + ", " + c + ", " + upper + ")", x.chance(group, n, c, upper),
                    y.chance(group, n, c, upper));
                break;
            case 7:
                long seed = random.nextLong();
                due.is("seed(" + seed + ")", x.seed(seed), y.seed(seed));
                break;
            default:
                int m = mostlyBelow(41);
                due.is("drawn(" + m + ")", x.drawn(m), y.drawn(m));
                break;
        }
    }

    private void slots(int way) {
        int slot = mostlyBelow(2);
        if (way == 0) {
            due.is("keep(" + slot + ")", x.keep(slot), y.keep(slot));
        } else {
            int heard = y.again(slot);
            due.is("again(" + slot + ")", x.again(slot), heard);
            came[14] += heard >= 0 ? 1 : 0;
        }
    }

    private void text(int way) {
        int kind = below(12);
        if (kind == 0) {
            tellStation(below(4));
        } else if (kind == 1) {
            due.is("wipe()", x.wipe(), y.wipe());
            letter('S');
        } else if (kind == 2) {
            due.is("station()", x.station(), y.station());
        } else if (kind == 3) {
            letter(mostlyBelow(256));
        } else {
            int max = kind < 8 ? 4 : 10;
            for (int i = 0; i < kind - 3; i++) {
                letter('0' + below(max));
            }
        }
    }

    private void lookAtAll() {
        for (int what = -1; what <= 18; what++) {
            due.is("about(" + what + ")", x.about(what), y.about(what));
        }
        for (int what = -1; what <= 7; what++) {
            due.is("told(" + what + ")", x.told(what), y.told(what));
        }
        for (int i = -1; i <= 8; i++) {
            due.is("offset(" + i + ")", x.offset(i), y.offset(i));
            due.is("part(" + i + ")", x.part(i), y.part(i));
            due.is("name(" + i + ", false)", x.name(i, false), y.name(i, false));
            due.is("name(" + i + ", true)", x.name(i, true), y.name(i, true));
            due.is("list(" + i + ", false)", x.list(i, false), y.list(i, false));
            due.is("list(" + i + ", true)", x.list(i, true), y.list(i, true));
        }
    }

    private void noteWhatCame() {
        boolean[] now = {y.about(5) == 1, y.about(10) > 0, y.about(11) > 0, y.about(12) > 0, y.about(13) == 14,
            y.told(0) >= 0, y.told(2) >= 0, y.told(3) == 1, y.told(4) == 8, y.told(5) > 0, y.list(0, true) == 99,
            y.about(8) > 3, y.about(14) == 4};
        for (int i = 0; i < now.length; i++) {
            came[i] += now[i] ? 1 : 0;
        }
    }
}
