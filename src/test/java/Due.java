import java.util.function.IntSupplier;

/** What a test shares: answers against those that are due, texts fed in one go. */
final class Due {
    private final String test;
    private int wrong;
    private int asked;

    Due(String test) {
        this.test = test;
    }

    void is(String call, int got, int want) {
        asked++;
        if (got != want) {
            wrong++;
            System.out.println(test + ": " + call + " answered " + got + ", due is " + want);
        }
    }

    /** The answers of many calls, in one row. */
    void are(String calls, int[] got, int... want) {
        asked++;
        if (!java.util.Arrays.equals(got, want)) {
            wrong++;
            System.out.println(test + ": " + calls + " answered " + java.util.Arrays.toString(got) + ", due is "
                + java.util.Arrays.toString(want));
        }
    }

    /** A call that is refused, and leaves all as it was. */
    void refused(String call, SpreadGroups x, IntSupplier answer, int want) {
        String before = allOf(x);
        is(call, answer.getAsInt(), want);
        String behind = allOf(x);
        asked++;
        if (!behind.equals(before)) {
            wrong++;
            System.out.println(test + ": " + call + " has changed " + before + " to " + behind);
        }
    }

    /** A text with a ^ where its FAULT is, told to a new object. */
    void fault(int which, String marked) {
        int place = marked.indexOf('^');
        SpreadGroups x = new SpreadGroups();
        String text = marked.substring(0, place) + marked.substring(place + 1);
        is("text " + marked, tell(x, text), -10 - place);
        is("fault of " + marked, x.fault(), which);
        is("bytes behind " + marked, x.count(1), 0);
    }

    void map(String call, SpreadGroups x, int first, String want) {
        asked++;
        String got = mapOf(x, first, want.length());
        if (!got.equals(want)) {
            wrong++;
            System.out.println(test + ": " + call + ": the map from " + first + " is " + got + ", due is " + want);
        }
    }

    void end() {
        System.out.println(test + ": " + asked + " asked, " + wrong + " wrong");
        if (wrong != 0) {
            System.exit(1);
        }
    }

    static void feed(SpreadGroups x, String text) {
        for (int p = 0; p < text.length(); p++) {
            x.feed(text.charAt(p));
        }
    }

    static int tell(SpreadGroups x, String text) {
        feed(x, text);
        return x.text();
    }

    /** A new object that has been told a text that has to be taken. */
    static SpreadGroups told(String text) {
        SpreadGroups x = new SpreadGroups();
        if (tell(x, text) < 0) {
            throw new IllegalArgumentException("not taken: " + text);
        }
        return x;
    }

    static int[] blocksOf(SpreadGroups x, int i) {
        int[] blocks = new int[Math.max(0, x.inode(i, 4))];
        for (int k = 0; k < blocks.length; k++) {
            blocks[k] = x.block(i, k);
        }
        return blocks;
    }

    /** FRAGMENTS of THE MAP from first on: f FREE, x not. */
    static String mapOf(SpreadGroups x, int first, int n) {
        StringBuilder map = new StringBuilder();
        for (int f = first; f < first + n; f++) {
            map.append(x.fragment(f, 0) == 1 ? 'f' : 'x');
        }
        return map.toString();
    }

    /** All that can be asked of an object and changes nothing, as one text. */
    static String allOf(SpreadGroups x) {
        StringBuilder all = new StringBuilder();
        for (int what = 0; what <= 14; what++) {
            all.append(x.rule(what)).append(' ');
        }
        all.append("| ");
        for (int g = 0; g < x.rule(0); g++) {
            for (int what = 0; what <= 6; what++) {
                all.append(x.group(g, what)).append(' ');
            }
        }
        all.append("| ");
        for (int i = 0; i < x.rule(0) * x.rule(2); i++) {
            for (int what = 0; what <= 7; what++) {
                all.append(x.inode(i, what)).append(' ');
            }
            for (int k = 0; k <= 10; k++) {
                all.append(x.block(i, k)).append(' ');
            }
            for (int name = 0; name <= 9; name++) {
                all.append(x.find(i, name)).append(' ').append(x.entry(i, name)).append(' ');
            }
            all.append(x.where(i, 1)).append(' ').append(x.where(i, 2)).append(' ');
        }
        all.append("| ");
        for (int f = 0; f < x.rule(0) * x.rule(1) * 4; f++) {
            all.append(x.fragment(f, 0)).append(' ').append(x.fragment(f, 1)).append(' ');
        }
        all.append("| ");
        for (int what = 0; what <= 2; what++) {
            all.append(x.check(what)).append(' ');
        }
        return all.append(x.count(0)).append(' ').append(x.count(1)).append(' ').append(x.fault()).toString();
    }
}
