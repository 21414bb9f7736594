/** Promises 6 to 13: rule, group, inode, block, fragment, find, entry, where. */
public final class ReportsTest {
    private static final int BAD = SpreadGroups.BAD, NONE = SpreadGroups.NONE;
    private static final int LEAST = Integer.MIN_VALUE, MOST = Integer.MAX_VALUE;
    private static final Due due = new Due("ReportsTest");

    public static void main(String[] args) {
        rules();
        groups();
        inodes();
        blocks();
        fragments();
        names();
        whereDirectories();
        whereFiles();
        due.end();
    }

    /**
     * One GROUP of 8 BLOCKS, STEP 1, LIMIT 3: INODE 1 has BLOCKS 1 3 5, led on to 2, then 4, and its TAIL behind the
     * ROOT's; INODE 2 has BLOCKS 6, then 0 from there round is none, so 7.
     */
    private static SpreadGroups long1() {
        return Due.told("volume 1 8 3 1 0 3;file 0 4 22;file 0 2 8;");
    }

    private static void rules() {
        SpreadGroups x = long1();
        int[] rules = {1, 8, 3, 1, 0, 3, 1, 0, 1, 2, 31, 4, 3, 0, 0};
        for (int what = 0; what < rules.length; what++) {
            due.is("rule " + what, x.rule(what), rules[what]);
        }
        due.is("rule -1", x.rule(-1), BAD);
        due.is("rule 15", x.rule(15), BAD);
        due.is("rule most", x.rule(MOST), BAD);
        due.is("rule least", x.rule(LEAST), BAD);
    }

    private static void groups() {
        SpreadGroups x = Due.told("volume 2 4 4 0 0 4;dir 0 0;file 0 1 2;file 0 2 2;file 1 3 3;file 1 4 1;file 1 5 6;");
        int[][] all = {
            // ROOT 0, INODE 1 at 1 2, INODE 2 at 4 5: RUNS 3, 6 7
            {11, 2, 1, 1, 1, 1, 0},
            // INODE 4 at 16, 5 at 17 to 19, 6 at 20, 7: BLOCK 6, TAIL 21 22
            {5, 1, 0, 1, 1, 0, 0},
        };
        for (int g = 0; g < 2; g++) {
            for (int what = 0; what <= 6; what++) {
                due.is("group " + g + " " + what, x.group(g, what), all[g][what]);
            }
        }
        x.flip(25);
        x.flip(27);
        due.is("runs by the map alone", x.group(1, 4), 3);
        x.flip(28);
        due.is("three in a block", x.group(1, 6), 1);
        due.is("group -1", x.group(-1, 0), BAD);
        due.is("group 2", x.group(2, 0), BAD);
        due.is("group least", x.group(LEAST, 0), BAD);
        due.is("group 0 -1", x.group(0, -1), BAD);
        due.is("group 0 7", x.group(0, 7), BAD);
    }

    private static void inodes() {
        SpreadGroups x = Due.told("volume 1 8 5 1 0 3;file 0 4 22;dir 0 3;file 1 9 8;");
        int[][] all = {
            {1, NONE, NONE, 1, 0, 0, 0, 0},
            {2, 0, 4, 22, 5, 1, 3, 3},
            {1, 0, 3, 1, 0, 3, 0, 0},
            {2, 2, 9, 8, 2, NONE, 1, 0},
            {0, NONE, NONE, NONE, NONE, NONE, NONE, NONE},
        };
        for (int i = 0; i < all.length; i++) {
            for (int what = 0; what <= 7; what++) {
                due.is("inode " + i + " " + what, x.inode(i, what), all[i][what]);
            }
        }
        due.is("inode -1", x.inode(-1, 0), BAD);
        due.is("inode 5", x.inode(5, 0), BAD);
        due.is("inode least", x.inode(LEAST, 0), BAD);
        due.is("inode most", x.inode(MOST, 0), BAD);
        due.is("inode 0 -1", x.inode(0, -1), BAD);
        due.is("inode 0 8", x.inode(0, 8), BAD);
        due.is("inode of nothing, 8", x.inode(4, 8), BAD);
    }

    private static void blocks() {
        SpreadGroups x = long1();
        int[] first = {1, 3, 5, 2, 4, NONE};
        for (int k = 0; k < first.length; k++) {
            due.is("block 1 " + k, x.block(1, k), first[k]);
        }
        due.is("block 2 0", x.block(2, 0), 6);
        due.is("block 2 1", x.block(2, 1), 7);
        due.is("block 2 2", x.block(2, 2), NONE);
        due.is("block 1 most", x.block(1, MOST), NONE);
        due.is("block 1 -1", x.block(1, -1), BAD);
        due.is("block of the root", x.block(0, 0), NONE);
        due.is("block -1", x.block(-1, 0), BAD);
        due.is("block 3", x.block(3, 0), BAD);
        due.is("block least", x.block(LEAST, 0), BAD);
        x.remove(1);
        due.is("block of nothing", x.block(1, 0), NONE);
        due.is("block of nothing, -1", x.block(1, -1), BAD);
        x = Due.told("volume 2 4 4 0 0 4;file 0 0 4;dir 0 1;file 1 2 4;");
        due.is("numbers of the second group", x.block(5, 0), 5);
    }

    private static void fragments() {
        SpreadGroups x = long1();
        for (int f = 0; f < 32; f++) {
            int owner = f == 0 ? 0 : f < 3 ? 1 : f == 3 ? NONE : f < 24 ? 1 : 2;
            due.is("fragment " + f + " 0", x.fragment(f, 0), f == 3 ? 1 : 0);
            due.is("fragment " + f + " 1", x.fragment(f, 1), owner);
        }
        x.flip(3);
        x.flip(4);
        due.is("not free by the map", x.fragment(3, 0), 0);
        due.is("had by none yet", x.fragment(3, 1), NONE);
        due.is("free by the map", x.fragment(4, 0), 1);
        due.is("had yet", x.fragment(4, 1), 1);
        due.is("fragment -1", x.fragment(-1, 0), BAD);
        due.is("fragment 32", x.fragment(32, 1), BAD);
        due.is("fragment least", x.fragment(LEAST, 0), BAD);
        due.is("fragment 0 -1", x.fragment(0, -1), BAD);
        due.is("fragment 0 2", x.fragment(0, 2), BAD);
    }

    private static void names() {
        SpreadGroups x = Due.told("volume 1 8 6 0 0 4;dir 0 9;file 0 0 1;file 0 4 0;file 1 4 0;");
        due.is("find 0 9", x.find(0, 9), 1);
        due.is("find 0 0", x.find(0, 0), 2);
        due.is("find 0 4", x.find(0, 4), 3);
        due.is("find 1 4", x.find(1, 4), 4);
        due.is("find 0 1", x.find(0, 1), NONE);
        due.is("find 1 9", x.find(1, 9), NONE);
        due.is("find 0 -1", x.find(0, -1), BAD);
        due.is("find 0 10", x.find(0, 10), BAD);
        due.is("find in a file", x.find(2, 0), BAD);
        due.is("find in nothing", x.find(5, 0), BAD);
        due.is("find -1", x.find(-1, 0), BAD);
        due.is("find NONE", x.find(NONE, 0), BAD);
        due.is("find 6", x.find(6, 0), BAD);
        int[] entries = {2, 3, 1, NONE, NONE};
        for (int i = 0; i < entries.length; i++) {
            due.is("entry 0 " + i, x.entry(0, i), entries[i]);
        }
        due.is("entry 0 most", x.entry(0, MOST), NONE);
        due.is("entry 1 0", x.entry(1, 0), 4);
        due.is("entry 1 1", x.entry(1, 1), NONE);
        due.is("entry 0 -1", x.entry(0, -1), BAD);
        due.is("entry of a file", x.entry(2, 0), BAD);
        due.is("entry of nothing", x.entry(5, 0), BAD);
        due.is("entry 6", x.entry(6, 0), BAD);
    }

    private static void whereDirectories() {
        SpreadGroups x = Due.told("volume 3 4 3 0 0 4;");
        // Nothing by GROUP 2 3 3: GROUP 0 has less than a third.
        due.is("the root's group has too few", x.where(0, 1), 1);
        x.make(0, 0, 1);
        // 2 2 3: only GROUP 2 has a third.
        due.is("the second has too few", x.where(0, 1), 2);
        x.make(0, 1, 1);
        // 2 2 2 with a DIRECTORY each.
        due.is("all alike", x.where(0, 1), 0);
        due.is("wherever the parent is", x.where(6, 1), 0);
        x.make(0, 2, 1);
        // 1 2 2, DIRECTORIES 2 1 1
        due.is("the fewest", x.where(0, 1), 1);
        x.make(6, 2, 2);
        // 1 2 1, DIRECTORIES 2 1 1: 2 times 3 are at least 4, 1 times 3 are not.
        due.is("only where many are", x.where(0, 1), 1);
        x.make(3, 1, 1);
        // 1 1 1, DIRECTORIES 2 2 1
        due.is("fewest though last", x.where(0, 1), 2);
        x.make(0, 3, 1);
        x.make(0, 4, 1);
        x.make(0, 5, 1);
        due.is("none is nothing", x.where(0, 1), NONE);
        due.is("nor for a file", x.where(0, 2), NONE);
        due.is("where 0 0", x.where(0, 0), BAD);
        due.is("where 0 3", x.where(0, 3), BAD);
        due.is("where a file", x.where(7, 1), BAD);
        due.is("where -1", x.where(-1, 1), BAD);
        due.is("where 9", x.where(9, 2), BAD);
    }

    private static void whereFiles() {
        SpreadGroups x = Due.told("volume 3 4 2 0 0 4;dir 0 0;");
        due.is("its directory", x.find(0, 0), 2);
        due.is("the parent's group", x.where(2, 2), 1);
        due.is("the root's group", x.where(0, 2), 0);
        x.make(2, 1, 2);
        due.is("the one behind", x.where(2, 2), 2);
        x.make(2, 2, 2);
        x.make(2, 3, 2);
        due.is("round", x.where(2, 2), 0);
        due.is("where of nothing", x.where(1, 2), BAD);
        x.make(2, 4, 2);
        due.is("none", x.where(2, 2), NONE);
    }
}
