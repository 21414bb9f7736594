import java.util.Random;

/** Runs of chosen calls, the same ones each time, on the class and on Model: all answers have to be alike. */
public final class ModelTest {
    private static final int RUNS = 1500;
    private static final int CALLS = 400;
    private static final int[] EDGES = {-4, -1, Integer.MIN_VALUE, Integer.MAX_VALUE, 10, 24, 41, 128, 200};

    private final Due due = new Due("ModelTest");
    private final Random random = new Random(20261118);
    private SpreadGroups x;
    private Model m;
    /** What has been met, so that a test that never comes to it is seen. */
    private int extended, moved, gathered, growFull, ledOn, taken;
    private final int[] faults = new int[6];

    public static void main(String[] args) {
        ModelTest test = new ModelTest();
        for (int run = 0; run < RUNS; run++) {
            test.run(run);
        }
        test.wasMet();
        test.due.end();
    }

    private void run(int run) {
        x = new SpreadGroups();
        m = new Model();
        if (run % 10 != 0) {
            tell(volume() + lines());
        }
        boolean full = run % 3 == 0;
        for (int call = 0; call < CALLS; call++) {
            int which = random.nextInt(100);
            if (which < 55) {
                deed();
            } else if (which < 92) {
                report();
            } else {
                other(full);
            }
        }
        compareAll();
        extended += x.rule(13);
        moved += x.rule(14);
        for (int i = 0; i < x.rule(0) * x.rule(2); i++) {
            ledOn += x.block(i, x.rule(5)) >= 0 ? 1 : 0;
        }
    }

    private void is(String call, int got, int want) {
        due.is(call, got, want);
    }

    /** Mostly within 0 to most, now and then just outside or far. */
    private int pick(int most) {
        int which = random.nextInt(40);
        if (which == 0) {
            return EDGES[random.nextInt(EDGES.length)];
        }
        if (which == 1) {
            return random.nextBoolean() ? -1 : most + 1;
        }
        return random.nextInt(most + 1);
    }

    private int anInode() {
        return pick(x.rule(0) * x.rule(2) - 1);
    }

    private int aDirectory() {
        for (int t = 0; t < 6; t++) {
            int i = anInode();
            if (x.inode(i, 0) == 1) {
                return i;
            }
        }
        return random.nextInt(8) == 0 ? anInode() : 0;
    }

    private int aFile() {
        for (int t = 0; t < 8; t++) {
            int i = anInode();
            if (x.inode(i, 0) == 2) {
                return i;
            }
        }
        return anInode();
    }

    private int aFragment() {
        return pick(x.rule(0) * x.rule(1) * 4 - 1);
    }

    private void deed() {
        int a;
        int b;
        int c;
        switch (random.nextInt(12)) {
            case 0: case 1: case 2:
                a = aDirectory(); b = pick(9); c = random.nextInt(4) == 0 ? pick(3) : random.nextInt(3) == 0 ? 1 : 2;
                is("make " + a + " " + b + " " + c, x.make(a, b, c), m.make(a, b, c));
                break;
            case 3: case 4: case 5: case 6:
                a = aFile(); b = random.nextInt(3) == 0 ? pick(41) : 1 + random.nextInt(9);
                int grown = x.grow(a, b);
                growFull += grown == SpreadGroups.FULL ? 1 : 0;
                is("grow " + a + " " + b, grown, m.grow(a, b));
                break;
            case 7: case 8:
                a = aFile(); b = random.nextInt(3) == 0 ? pick(20) : 1 + random.nextInt(5);
                is("shrink " + a + " " + b, x.shrink(a, b), m.shrink(a, b));
                break;
            case 9:
                a = random.nextInt(3) == 0 ? anInode() : aFile();
                is("remove " + a, x.remove(a), m.remove(a));
                break;
            case 10:
                a = anInode(); b = aDirectory(); c = pick(9);
                is("move " + a + " " + b + " " + c, x.move(a, b, c), m.move(a, b, c));
                break;
            default:
                a = aFile();
                int got = x.gather(a);
                gathered += got >= 0 ? 1 : 0;
                is("gather " + a, got, m.gather(a));
        }
    }

    private void report() {
        int a;
        int b;
        switch (random.nextInt(10)) {
            case 0: a = pick(14); is("rule " + a, x.rule(a), m.rule(a)); break;
            case 1: a = pick(3); b = pick(6); is("group " + a + " " + b, x.group(a, b), m.group(a, b)); break;
            case 2: a = anInode(); b = pick(7); is("inode " + a + " " + b, x.inode(a, b), m.inode(a, b)); break;
            case 3: a = aFile(); b = pick(9); is("block " + a + " " + b, x.block(a, b), m.block(a, b)); break;
            case 4: a = aFragment(); b = pick(1); is("fragment " + a + " " + b, x.fragment(a, b), m.fragment(a, b)); break;
            case 5: a = aDirectory(); b = pick(9); is("find " + a + " " + b, x.find(a, b), m.find(a, b)); break;
            case 6: a = aDirectory(); b = pick(4); is("entry " + a + " " + b, x.entry(a, b), m.entry(a, b)); break;
            case 7: a = aDirectory(); b = pick(3); is("where " + a + " " + b, x.where(a, b), m.where(a, b)); break;
            case 8: a = pick(2); is("check " + a, x.check(a), m.check(a)); break;
            default: a = pick(1); is("count " + a, x.count(a), m.count(a)); is("fault", x.fault(), m.fault());
        }
    }

    private void other(boolean texts) {
        int a;
        int b;
        switch (random.nextInt(10)) {
            case 0: case 1: a = random.nextInt(); b = pick(20); is("draw " + a + " " + b, x.draw(a, b), m.draw(a, b)); break;
            case 2: case 3:
                a = aFragment();
                is("flip " + a, x.flip(a), m.flip(a));
                report();
                deed();
                if (random.nextInt(4) != 0) {
                    is("mend", x.mend(), m.mend());
                }
                break;
            case 4: is("mend", x.mend(), m.mend()); break;
            case 5: a = pick(1); is("keep " + a, x.keep(a), m.keep(a)); break;
            case 6: a = pick(1); is("back " + a, x.back(a), m.back(a)); break;
            case 7: a = pick(127); is("feed " + a, x.feed(a), m.feed(a)); break;
            case 8: a = pick(3); is("end " + a, x.end(a), m.end(a)); break;
            default:
                if (texts) {
                    is("end 0", x.end(0), m.end(0));
                    tell(spoil(volume() + lines()));
                    compareAll();
                }
        }
    }

    private void compareAll() {
        for (int what = 0; what <= 14; what++) {
            is("rule " + what, x.rule(what), m.rule(what));
        }
        for (int g = 0; g < x.rule(0); g++) {
            for (int what = 0; what <= 6; what++) {
                is("group " + g + " " + what, x.group(g, what), m.group(g, what));
            }
        }
        for (int i = 0; i < x.rule(0) * x.rule(2); i++) {
            for (int what = 0; what <= 7; what++) {
                is("inode " + i + " " + what, x.inode(i, what), m.inode(i, what));
            }
            for (int k = 0; k <= 10; k++) {
                is("block " + i + " " + k, x.block(i, k), m.block(i, k));
            }
        }
        for (int f = 0; f < x.rule(0) * x.rule(1) * 4; f++) {
            is("fragment " + f + " 0", x.fragment(f, 0), m.fragment(f, 0));
            is("fragment " + f + " 1", x.fragment(f, 1), m.fragment(f, 1));
        }
    }

    // texts

    private void tell(String text) {
        for (int p = 0; p < text.length(); p++) {
            is("feed", x.feed(text.charAt(p)), m.feed(text.charAt(p)));
        }
        int answer = x.text();
        is("text " + text, answer, m.text());
        is("fault of " + text, x.fault(), m.fault());
        taken += answer >= 0 ? 1 : 0;
        int fault = x.fault();
        if (fault >= 0 && fault < faults.length) {
            faults[fault]++;
        }
    }

    private String volume() {
        int reserve = random.nextInt(3) == 0 ? random.nextInt(12) : 0;
        return "volume " + (1 + random.nextInt(4)) + " " + (1 + random.nextInt(8)) + " " + (1 + random.nextInt(6)) + " "
            + random.nextInt(4) + " " + reserve + " " + (1 + random.nextInt(8)) + ";";
    }

    private String lines() {
        StringBuilder lines = new StringBuilder();
        int directories = 0;
        for (int n = random.nextInt(8); n > 0; n--) {
            boolean directory = random.nextInt(3) == 0;
            lines.append(directory ? "dir " : "file ").append(random.nextInt(directories + 1)).append(' ');
            lines.append(random.nextInt(10));
            if (directory) {
                directories++;
            } else {
                lines.append(' ').append(random.nextInt(4) == 0 ? random.nextInt(41) : random.nextInt(9));
            }
            lines.append(';');
        }
        return lines.toString();
    }

    private String spoil(String text) {
        StringBuilder spoilt = new StringBuilder(text);
        for (int n = random.nextInt(3); n > 0; n--) {
            int place = random.nextInt(spoilt.length());
            char sign = "  0123456789;;adefilmouv.?A".charAt(random.nextInt(27));
            switch (random.nextInt(3)) {
                case 0: spoilt.insert(place, sign); break;
                case 1: spoilt.setCharAt(place, sign); break;
                default: spoilt.deleteCharAt(place);
            }
        }
        if (random.nextInt(8) == 0) {
            spoilt.setLength(random.nextInt(spoilt.length()));
        }
        return spoilt.toString();
    }

    private void wasMet() {
        System.out.println("ModelTest: extended " + extended + ", moved " + moved + ", gathered " + gathered + ", grow full "
            + growFull + ", led on " + ledOn + ", texts taken " + taken + ", faults " + java.util.Arrays.toString(faults));
        int least = Math.min(Math.min(Math.min(extended, moved), Math.min(gathered, growFull)), Math.min(ledOn, taken));
        for (int fault = 1; fault < faults.length; fault++) {
            least = Math.min(least, faults[fault]);
        }
        is("all has been met often", least >= 20 ? 1 : 0, 1);
    }
}
