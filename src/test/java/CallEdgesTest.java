/**
 * The edges that promises 6 to 14, 17, 18 and 20 to 26 name: the last input that is in and the first that is out, the
 * empty and the full, which answer goes first, and that a refused call leaves all as it was.
 * A method's comment has the sentence that it would see broken; one without goes on with the sentence ahead.
 */
public final class CallEdgesTest {
    private static final int BAD = SpreadGroups.BAD, STATE = SpreadGroups.STATE;
    private static final int FULL = SpreadGroups.FULL, NONE = SpreadGroups.NONE;
    private static final int LEAST = Integer.MIN_VALUE, MOST = Integer.MAX_VALUE;
    private static final Due due = new Due("CallEdgesTest");

    public static void main(String[] args) {
        rules();
        sumsOfAll();
        groups();
        inodes();
        blocks();
        fragments();
        finds();
        entries();
        wheres();
        makes();
        makesInOrder();
        makesOfTheLastRoom();
        removes();
        removeLeavesNothing();
        moves();
        movesIntoItself();
        movesToAName();
        draws();
        drawsByHand();
        drawCountsNought();
        drawTakesTheLastOfBoth();
        drawOfOneInode();
        flips();
        checks();
        mends();
        keeps();
        backs();
        imagesHoldAll();
        counts();
        spoiltRefusesDeedsAlone();
        due.end();
    }

    /** A VOLUME with a DIRECTORY 4, FILES 5 (in it) and 1, INODES 2 3 6 7 nothing. */
    private static SpreadGroups some() {
        return Due.told("volume 2 4 4 0 0 4;dir 0 1;file 1 0 9;file 0 2 3;");
    }

    /** "0 G, 1 B, ... 14 how often MOVED. BAD." */
    private static void rules() {
        SpreadGroups x = some();
        int[] want = {2, 4, 4, 0, 0, 4, 18, 4, 2, 2, 14, 1, 1, 0, 0};
        for (int what = 0; what <= 14; what++) {
            due.is("rule " + what, x.rule(what), want[what]);
        }
        for (int what : new int[] {-1, 15, LEAST, MOST}) {
            due.refused("rule " + what, x, () -> x.rule(what), BAD);
        }
    }

    /** "8 DIRECTORIES, 9 FILES, 10 SIZES of all, summed, 11 PAIRS, 12 those that FOLLOW": the ROOT alone, and all full. */
    private static void sumsOfAll() {
        SpreadGroups x = Due.told("volume 1 1 1 0 0 1;");
        due.are("the root alone", new int[] {x.rule(8), x.rule(9), x.rule(10), x.rule(11), x.rule(12)}, 1, 0, 1, 0, 0);
        SpreadGroups y = Due.told("volume 4 8 6 0 0 8;file 0 0 40;file 0 1 40;");
        due.is("a third file", y.make(0, 2, 2), 3);
        due.is("of what is left", y.grow(3, 40), 40);
        due.are("nearly full", new int[] {y.rule(6), y.rule(7), y.rule(9), y.rule(10)}, 7, 1, 3, 121);
        due.is("pairs", y.rule(11), 24);
        due.is("of each", y.inode(1, 6) + y.inode(2, 6) + y.inode(3, 6), 24);
        due.is("those that follow", y.rule(12), y.inode(1, 7) + y.inode(2, 7) + y.inode(3, 7));
        y.make(0, 3, 2);
        due.is("the last block", y.grow(4, 4), 4);
        due.is("the last of the room", y.grow(4, 3), 7);
        due.are("full", new int[] {y.rule(6), y.rule(7), y.rule(10)}, 0, 0, 128);
        due.refused("not one more", y, () -> y.grow(4, 1), FULL);
        due.refused("nor a directory", y, () -> y.make(0, 4, 1), FULL);
        for (int g = 0; g < 4; g++) {
            due.are("group " + g, new int[] {y.group(g, 0), y.group(g, 1), y.group(g, 4), y.group(g, 5), y.group(g, 6)}, 0, 0, 0, 0, 0);
        }
    }

    /** "0 FREE FRAGMENTS ... 4 to 6 RUNS of 1 to 3 FRAGMENTS (in BLOCKS that are not FREE; all of a RUN). BAD." */
    private static void groups() {
        SpreadGroups x = some();
        int[][] want = {{12, 3, 2, 1, 0, 0, 0}, {6, 1, 2, 1, 0, 1, 0}};
        for (int g = 0; g <= 1; g++) {
            for (int what = 0; what <= 6; what++) {
                due.is("group " + g + " " + what, x.group(g, what), want[g][what]);
            }
        }
        int[][] bad = {{-1, 0}, {2, 0}, {LEAST, 0}, {MOST, 0}, {0, -1}, {0, 7}, {1, LEAST}, {1, MOST}, {2, 7}};
        for (int[] b : bad) {
            due.refused("group " + b[0] + " " + b[1], x, () -> x.group(b[0], b[1]), BAD);
        }
        // All sixteen ways in which a BLOCK may be FREE: bit f set: FRAGMENT f is FREE.
        int[][] runs = {
            {0, 0, 0}, {1, 0, 0}, {1, 0, 0}, {0, 1, 0}, {1, 0, 0}, {2, 0, 0}, {0, 1, 0}, {0, 0, 1},
            {1, 0, 0}, {2, 0, 0}, {2, 0, 0}, {1, 1, 0}, {0, 1, 0}, {1, 1, 0}, {0, 0, 1}, {0, 0, 0},
        };
        for (int free = 0; free < 16; free++) {
            SpreadGroups y = Due.told("volume 2 1 1 0 0 1;");
            for (int f = 0; f < 4; f++) {
                if ((free >> f & 1) == 0) {
                    y.flip(4 + f);
                }
            }
            due.are("runs of " + Due.mapOf(y, 4, 4), new int[] {y.group(1, 4), y.group(1, 5), y.group(1, 6)}, runs[free]);
            due.is("free block " + free, y.group(1, 1), free == 15 ? 1 : 0);
            due.is("free fragments " + free, y.group(1, 0), Integer.bitCount(free));
            due.is("the other group's", y.group(0, 6), 1);
            // The first BLOCK of all, too: there only the ROOT's is not FREE.
            for (int f = 0; f < 4; f++) {
                if ((free >> f & 1) == (f == 0 ? 1 : 0)) {
                    y.flip(f);
                }
            }
            due.are("runs of " + Due.mapOf(y, 0, 4), new int[] {y.group(0, 4), y.group(0, 5), y.group(0, 6)}, runs[free]);
        }
    }

    /** "(of nothing 1 to 7: NONE). BAD." */
    private static void inodes() {
        SpreadGroups x = some();
        int[][] want = {
            {1, NONE, NONE, 1, 0, 0, 0, 0}, {2, 0, 2, 3, 0, 1, 0, 0}, null, null,
            {1, 0, 1, 1, 0, 16, 0, 0}, {2, 4, 0, 9, 2, 17, 1, 1}, null, null,
        };
        for (int i = 0; i < 8; i++) {
            for (int what = 0; what <= 7; what++) {
                int nothing = what == 0 ? 0 : NONE;
                due.is("inode " + i + " " + what, x.inode(i, what), want[i] == null ? nothing : want[i][what]);
            }
            due.is("inode " + i + " -1", x.inode(i, -1), BAD);
            due.is("inode " + i + " 8", x.inode(i, 8), BAD);
        }
        int[][] bad = {{-1, 0}, {8, 0}, {-4, 1}, {LEAST, 0}, {MOST, 0}, {0, LEAST}, {0, MOST}, {8, 8}};
        for (int[] b : bad) {
            due.refused("inode " + b[0] + " " + b[1], x, () -> x.inode(b[0], b[1]), BAD);
        }
        SpreadGroups y = Due.told("volume 1 8 2 0 0 8;file 0 0 28;");
        due.is("no tail", y.inode(1, 5), NONE);
        y.grow(1, 1);
        due.is("a tail", y.inode(1, 5), 1);
    }

    /** "BAD: i, k below 0; NONE: there are not so many." */
    private static void blocks() {
        SpreadGroups x = Due.told("volume 2 8 3 0 0 8;file 0 0 40;dir 0 1;file 1 2 3;");
        for (int k = 0; k <= 9; k++) {
            due.is("block " + k, x.block(1, k), k + 1);
        }
        due.is("one more", x.block(1, 10), NONE);
        due.is("many more", x.block(1, MOST), NONE);
        due.is("below 0", x.block(1, -1), BAD);
        due.is("far below 0", x.block(1, LEAST), BAD);
        due.is("of the root", x.block(0, 0), NONE);
        due.is("of a directory", x.block(3, 0), NONE);
        due.is("of a file without", x.block(4, 0), NONE);
        due.is("of an inode that is nothing", x.block(5, 0), NONE);
        due.is("of nothing, below 0", x.block(5, -1), BAD);
        for (int i : new int[] {-1, 6, LEAST, MOST}) {
            due.is("of inode " + i, x.block(i, 0), BAD);
        }
        x.shrink(1, 1);
        due.is("the last has become a tail", x.block(1, 9), NONE);
        due.is("the one ahead is there", x.block(1, 8), 9);
    }

    /** "0 whether it is FREE (1, 0), 1 the INODE that has it (NONE). BAD." */
    private static void fragments() {
        SpreadGroups x = some();
        int[] owners = {0, 1, 1, 1, 4, 5, 5, 5, 5};
        int[] places = {0, 1, 2, 3, 16, 17, 20, 23, 27};
        for (int n = 0; n < places.length; n++) {
            due.is("free " + places[n], x.fragment(places[n], 0), 0);
            due.is("who has " + places[n], x.fragment(places[n], 1), owners[n]);
        }
        for (int f : new int[] {4, 15, 18, 19, 28, 31}) {
            due.is("free " + f, x.fragment(f, 0), 1);
            due.is("who has " + f, x.fragment(f, 1), NONE);
        }
        int[][] bad = {{-1, 0}, {-1, 1}, {32, 0}, {32, 1}, {LEAST, 0}, {MOST, 0}, {0, -1}, {0, 2}, {31, LEAST}, {31, MOST}};
        for (int[] b : bad) {
            due.refused("fragment " + b[0] + " " + b[1], x, () -> x.fragment(b[0], b[1]), BAD);
        }
        x.flip(0);
        x.flip(4);
        due.are("a spoilt map", new int[] {x.fragment(0, 0), x.fragment(0, 1), x.fragment(4, 0), x.fragment(4, 1)}, 1, 0, 0, NONE);
    }

    /** "The INODE of a NAME in a DIRECTORY. BAD; NONE." */
    private static void finds() {
        SpreadGroups x = Due.told("volume 2 4 4 0 0 4;dir 0 0;file 0 9 0;file 1 9 0;");
        due.are("the first name, the last", new int[] {x.find(0, 0), x.find(0, 9), x.find(4, 9)}, 4, 1, 5);
        for (int name = 1; name <= 8; name++) {
            due.is("find " + name, x.find(0, name), NONE);
        }
        due.is("of another directory", x.find(4, 0), NONE);
        int[][] bad = {{0, -1}, {0, 10}, {0, LEAST}, {0, MOST}, {1, 0}, {5, 9}, {2, 0}, {-1, 0}, {-4, 0}, {8, 0}, {LEAST, 0}, {MOST, 0}};
        for (int[] b : bad) {
            due.refused("find " + b[0] + " " + b[1], x, () -> x.find(b[0], b[1]), BAD);
        }
        x.remove(1);
        due.is("gone", x.find(0, 9), NONE);
    }

    /** "The INODE of the i-th (0 on) NAME there is, by number ... BAD: d, i below 0; NONE: there are not so many." */
    private static void entries() {
        SpreadGroups x = Due.told("volume 2 8 6 0 0 4;");
        due.is("none yet", x.entry(0, 0), NONE);
        for (int name = 9; name >= 0; name--) {
            x.make(0, name, 2);
        }
        for (int i = 0; i <= 9; i++) {
            due.is("entry " + i, x.entry(0, i), x.find(0, i));
        }
        due.is("the inode of the last name was made first", x.entry(0, 9), 1);
        due.is("one more", x.entry(0, 10), NONE);
        due.is("many more", x.entry(0, MOST), NONE);
        due.is("below 0", x.entry(0, -1), BAD);
        due.is("far below 0", x.entry(0, LEAST), BAD);
        x.remove(x.find(0, 0));
        x.remove(x.find(0, 5));
        due.is("names that are not there are passed", x.entry(0, 0), x.find(0, 1));
        due.is("the last there is", x.entry(0, 7), x.find(0, 9));
        due.is("no more then", x.entry(0, 8), NONE);
        int d = x.make(0, 0, 1);
        due.is("an empty directory", x.entry(d, 0), NONE);
        for (int no : new int[] {1, 11, -1, -4, 12, LEAST, MOST}) {
            due.refused("entry of " + no, x, () -> x.entry(no, 0), BAD);
        }
    }

    /** "BAD; NONE: there is no INODE for it." */
    private static void wheres() {
        SpreadGroups x = some();
        int[][] bad = {{0, 0}, {0, 3}, {0, -1}, {0, LEAST}, {0, MOST}, {1, 1}, {1, 2}, {5, 2}, {2, 1}, {-1, 1}, {8, 2}, {LEAST, 1}, {MOST, 2}};
        for (int[] b : bad) {
            due.refused("where " + b[0] + " " + b[1], x, () -> x.where(b[0], b[1]), BAD);
        }
        due.are("wheres", new int[] {x.where(0, 1), x.where(0, 2), x.where(4, 1), x.where(4, 2)}, 0, 0, 0, 1);
        // Neither ROOM nor THE MAP is asked.
        SpreadGroups y = Due.told("volume 1 1 2 0 99 1;");
        due.is("without room", y.where(0, 1), 0);
        y.flip(3);
        due.is("by a spoilt map", y.where(0, 1), 0);
        due.is("by a spoilt map", y.where(0, 2), 0);
        y.mend();
        y.make(0, 0, 2);
        due.is("no inode", y.where(0, 1), NONE);
        due.is("no inode", y.where(0, 2), NONE);
        due.is("bad goes ahead", y.where(0, 3), BAD);
    }

    /** "A DIRECTORY (kind 1) or a FILE (2) of SIZE 0 more in a DIRECTORY: its INODE. BAD" */
    private static void makes() {
        SpreadGroups x = some();
        int[][] bad = {
            {0, 0, 0}, {0, 0, 3}, {0, 0, -1}, {0, 0, LEAST}, {0, 0, MOST}, {0, -1, 1}, {0, 10, 1}, {0, LEAST, 2}, {0, MOST, 2},
            {1, 0, 1}, {5, 0, 2}, {2, 0, 1}, {7, 0, 2}, {8, 0, 2}, {-1, 0, 1}, {-4, 0, 1}, {LEAST, 0, 1}, {MOST, 0, 1},
        };
        for (int[] b : bad) {
            due.refused("make " + b[0] + " " + b[1] + " " + b[2], x, () -> x.make(b[0], b[1], b[2]), BAD);
        }
        due.is("the first name", x.make(0, 0, 2), 2);
        due.is("the last name", x.make(0, 9, 1), 6);
        due.are("the file", new int[] {x.inode(2, 0), x.inode(2, 1), x.inode(2, 2), x.inode(2, 3), x.inode(2, 5)}, 2, 0, 0, 0, NONE);
        due.are("the directory", new int[] {x.inode(6, 0), x.inode(6, 1), x.inode(6, 2), x.inode(6, 3), x.inode(6, 5)}, 1, 0, 9, 1, 18);
    }

    /** BAD, then STATE ("also it has that NAME"), then FULL: "the first that fits". */
    private static void makesInOrder() {
        SpreadGroups x = Due.told("volume 1 1 2 0 0 1;file 0 5 3;");
        due.refused("bad, the name, full", x, () -> x.make(0, 5, 3), BAD);
        due.refused("bad, full", x, () -> x.make(1, 5, 1), BAD);
        due.refused("the name, full", x, () -> x.make(0, 5, 2), STATE);
        due.refused("the name, full", x, () -> x.make(0, 5, 1), STATE);
        due.refused("full", x, () -> x.make(0, 4, 2), FULL);
        due.refused("full", x, () -> x.make(0, 4, 1), FULL);
        x.flip(3);
        due.refused("bad, spoilt", x, () -> x.make(0, 10, 1), BAD);
        due.refused("spoilt, full", x, () -> x.make(0, 4, 2), STATE);
        due.refused("spoilt, the name", x, () -> x.make(0, 5, 2), STATE);
    }

    /** "FULL: there is no INODE, or (a DIRECTORY) ROOM less 1 is below RESERVE" */
    private static void makesOfTheLastRoom() {
        for (int reserve = 0; reserve <= 3; reserve++) {
            SpreadGroups x = Due.told("volume 1 1 6 0 " + reserve + " 1;");
            for (int n = 0; n < 3 - reserve; n++) {
                due.is("a directory, reserve " + reserve, x.make(0, n, 1), n + 1);
                due.is("its tail", x.inode(n + 1, 5), n + 1);
            }
            due.is("room is the reserve", x.rule(6), reserve);
            due.refused("one more, reserve " + reserve, x, () -> x.make(0, 9, 1), FULL);
            due.is("a file is made, reserve " + reserve, x.make(0, 9, 2), 4 - reserve);
        }
    }

    /** "BAD: no such one; STATE: also a DIRECTORY that has others, the ROOT." */
    private static void removes() {
        SpreadGroups x = some();
        for (int i : new int[] {2, 3, 6, 7, 8, -1, -4, LEAST, MOST}) {
            due.refused("remove " + i, x, () -> x.remove(i), BAD);
        }
        due.refused("the root that has others", x, () -> x.remove(0), STATE);
        due.refused("a directory that has others", x, () -> x.remove(4), STATE);
        due.is("its file", x.remove(5), 9);
        due.is("the directory then", x.remove(4), 1);
        due.is("the other file", x.remove(1), 3);
        due.refused("the root that has none", x, () -> x.remove(0), STATE);
        due.refused("once gone", x, () -> x.remove(4), BAD);
        SpreadGroups y = Due.told("volume 4 8 6 0 0 8;dir 0 0;file 0 1 0;");
        due.is("one moves in", y.move(1, 6, 0), 2);
        due.refused("it has one now", y, () -> y.remove(6), STATE);
        due.is("it moves out", y.move(1, 0, 1), 1);
        due.is("it has none now", y.remove(6), 1);
        due.is("a file of nothing", y.remove(1), 0);
        y.make(0, 0, 2);
        y.flip(5);
        due.refused("spoilt", y, () -> y.remove(1), STATE);
        due.refused("bad goes ahead", y, () -> y.remove(2), BAD);
    }

    /** "becomes nothing, what it had is FREE: SIZE" */
    private static void removeLeavesNothing() {
        SpreadGroups x = Due.told("volume 2 8 4 0 0 8;file 0 0 39;");
        due.is("blocks and a tail", x.remove(1), 39);
        due.is("room", x.rule(6), 63);
        due.is("free blocks", x.rule(7), 15);
        due.is("check", x.check(2), NONE);
        for (int what = 1; what <= 7; what++) {
            due.is("of nothing " + what, x.inode(1, what), NONE);
        }
        due.is("no block", x.block(1, 0), NONE);
        due.is("its name is free", x.make(0, 0, 2), 1);
        due.is("a new one has no size", x.inode(1, 3), 0);
        due.is("nor blocks", x.block(1, 0), NONE);
    }

    /** "An INODE, but not the ROOT, gets another PARENT, another NAME ...: how far it is from the ROOT then. BAD: no such one, d, name" */
    private static void moves() {
        SpreadGroups x = some();
        int[][] bad = {
            {2, 0, 5}, {8, 0, 5}, {-1, 0, 5}, {-4, 0, 5}, {LEAST, 0, 5}, {MOST, 0, 5}, {1, 2, 5}, {1, 5, 5}, {1, 1, 5}, {1, 8, 5},
            {1, -1, 5}, {1, -4, 5}, {1, LEAST, 5}, {1, MOST, 5}, {1, 0, -1}, {1, 0, 10}, {1, 0, LEAST}, {1, 0, MOST}, {0, 0, 10},
            {0, 1, 5}, {0, 8, 5}, {4, 4, 10},
        };
        for (int[] b : bad) {
            due.refused("move " + b[0] + " " + b[1] + " " + b[2], x, () -> x.move(b[0], b[1], b[2]), BAD);
        }
        String before = x.inode(1, 3) + " " + x.inode(1, 5) + " " + Due.mapOf(x, 0, 32);
        due.is("to the first name", x.move(1, 4, 1), 2);
        due.is("to the last name", x.move(1, 0, 9), 1);
        due.is("to the first name", x.move(1, 0, 0), 1);
        due.is("it is there", x.find(0, 0), 1);
        due.is("it is no more there", x.find(0, 9), NONE);
        due.is("nothing is taken", before.equals(x.inode(1, 3) + " " + x.inode(1, 5) + " " + Due.mapOf(x, 0, 32)) ? 1 : 0, 1);
        x.flip(31);
        due.refused("spoilt", x, () -> x.move(1, 0, 9), STATE);
        due.refused("bad goes ahead", x, () -> x.move(1, 0, 10), BAD);
    }

    /** "STATE: also the ROOT, d is it or lies in it (or in one in it, and so on)" */
    private static void movesIntoItself() {
        SpreadGroups x = Due.told("volume 1 8 6 0 0 8;dir 0 0;dir 1 0;dir 2 0;dir 3 0;dir 0 1;");
        for (int d = 0; d <= 5; d++) {
            int to = d;
            due.refused("the root into " + d, x, () -> x.move(0, to, 9), STATE);
        }
        for (int i = 1; i <= 4; i++) {
            for (int d = i; d <= 4; d++) {
                int from = i;
                int to = d;
                due.refused(i + " into " + d, x, () -> x.move(from, to, 9), STATE);
            }
        }
        due.is("into one ahead of it", x.move(4, 1, 9), 2);
        due.is("what lay around it may go into it", x.move(3, 4, 9), 3);
        due.refused("but not the other way round then", x, () -> x.move(4, 3, 8), STATE);
        due.is("all of it into another", x.move(1, 5, 0), 2);
        due.is("how far the last is", x.move(3, 4, 9), 4);
        due.is("that into the root's", x.move(2, 0, 0), 1);
    }

    /** "d has that NAME (but by it itself)" */
    private static void movesToAName() {
        SpreadGroups x = Due.told("volume 1 8 6 0 0 8;file 0 0 0;file 0 1 0;dir 0 2;file 1 0 0;");
        due.refused("a name that another has", x, () -> x.move(1, 0, 1), STATE);
        due.refused("a name that a directory has", x, () -> x.move(1, 0, 2), STATE);
        due.refused("a name that another has there", x, () -> x.move(1, 3, 0), STATE);
        due.refused("a directory to a name that a file has", x, () -> x.move(3, 0, 0), STATE);
        due.refused("to its own", x, () -> x.move(1, 0, 0), 1);
        due.refused("a directory to its own", x, () -> x.move(3, 0, 2), 1);
        due.refused("deeper, to its own", x, () -> x.move(4, 3, 0), 2);
        due.is("the same name in another", x.move(2, 3, 1), 2);
        due.is("its old name is free", x.move(1, 0, 1), 1);
    }

    /** "By a seed, n (1 to 20) deeds ... BAD; STATE." */
    private static void draws() {
        SpreadGroups x = some();
        for (int n : new int[] {0, -1, 21, LEAST, MOST}) {
            due.refused("draw of " + n, x, () -> x.draw(1, n), BAD);
        }
        x.flip(31);
        due.refused("spoilt", x, () -> x.draw(1, 1), STATE);
        due.refused("spoilt", x, () -> x.draw(1, 20), STATE);
        due.refused("bad goes ahead", x, () -> x.draw(1, 21), BAD);
        due.refused("bad goes ahead", x, () -> x.draw(1, 0), BAD);
    }

    /** The three got for a deed, by a seed, with which deed it is. */
    private static int[] got(int seed) {
        long now = seed & 0xffffffffL;
        int[] got = new int[4];
        for (int g = 0; g < 4; g++) {
            now = (now * 1103515245L + 12345L) % 4294967296L;
            got[g] = (int) (now >> 16 & 32767);
        }
        return got;
    }

    /** "0 make(a, b modulo 10, 1); 1, 2 make(a, b modulo 10, 2), and ... grow() ...; 3, 4 grow(a, c modulo 9 and 1); 5 remove(a)" */
    private static void drawsByHand() {
        int[] met = new int[6];
        for (int seed = -300; seed < 300; seed++) {
            int wide = seed * 7919;
            int[] got = got(wide);
            SpreadGroups x = some();
            SpreadGroups y = some();
            int a = got[1] % 8;
            int answer;
            if (got[0] % 6 == 0) {
                answer = y.make(a, got[2] % 10, 1);
            } else if (got[0] % 6 == 5) {
                answer = y.remove(a);
            } else {
                int file = got[0] % 6 > 2 ? a : y.make(a, got[2] % 10, 2);
                answer = file < 0 ? file : y.grow(file, got[3] % 9 + 1);
            }
            due.is("draw of one by " + wide, x.draw(wide, 1), answer >= 0 ? 1 : 0);
            due.is("what it leaves", Due.allOf(x).equals(Due.allOf(y)) ? 1 : 0, 1);
            met[got[0] % 6] += answer >= 0 ? 1 : 0;
        }
        for (int which = 0; which < 6; which++) {
            due.is("deed " + which + " was met", met[which] > 5 ? 1 : 0, 1);
        }
        SpreadGroups x = some();
        SpreadGroups y = some();
        due.is("as many as twenty may answer", x.draw(MOST, 20), y.draw(MOST, 20));
        due.is("alike", Due.allOf(x).equals(Due.allOf(y)) ? 1 : 0, 1);
    }

    private static int seedFor(int which, int a, int inodes) {
        for (int seed = 0; seed < 1000000; seed++) {
            int[] got = got(seed);
            if (got[0] % 6 == which && got[1] % inodes == a) {
                return seed;
            }
        }
        throw new IllegalStateException("no seed");
    }

    /** "how many answered 0 or more": remove() of a FILE of SIZE 0 answers 0. */
    private static void drawCountsNought() {
        SpreadGroups x = Due.told("volume 2 4 4 0 0 4;file 0 0 0;");
        due.is("one that answers 0", x.draw(seedFor(5, 1, 8), 1), 1);
        due.is("it is gone", x.inode(1, 0), 0);
        due.refused("one that is refused", x, () -> x.draw(seedFor(5, 1, 8), 1), 0);
        due.refused("the root", x, () -> x.draw(seedFor(5, 0, 8), 1), 0);
    }

    /** "(of 1, 2 the last one of both)": a FILE that is made but can not grow stays, and does not count. */
    private static void drawTakesTheLastOfBoth() {
        for (int which : new int[] {1, 2}) {
            SpreadGroups x = Due.told("volume 2 4 4 0 99 4;");
            due.is("it can not grow", x.draw(seedFor(which, 0, 8), 1), 0);
            due.is("it is there", x.inode(1, 0), 2);
            due.is("of size 0", x.inode(1, 3), 0);
            SpreadGroups y = Due.told("volume 2 4 4 0 0 4;");
            due.is("it can", y.draw(seedFor(which, 0, 8), 1), 1);
            due.is("it has a size", y.inode(1, 3), got(seedFor(which, 0, 8))[3] % 9 + 1);
            due.refused("a name it has", y, () -> y.draw(seedFor(which, 0, 8), 1), 0);
            due.refused("no directory", y, () -> y.draw(seedFor(which, 1, 8), 1), 0);
        }
    }

    /** "a is taken modulo G times I": with one INODE it is always the ROOT. */
    private static void drawOfOneInode() {
        SpreadGroups x = Due.told("volume 1 1 1 0 0 1;");
        due.refused("all are refused", x, () -> x.draw(1, 20), 0);
        SpreadGroups y = Due.told("volume 1 8 2 0 0 1;");
        due.is("a file in the root", y.draw(seedFor(1, 0, 2), 1), 1);
        due.is("is the last inode", y.inode(1, 0), 2);
        due.is("it goes", y.draw(seedFor(5, 1, 2), 1), 1);
        due.is("nothing is left", y.inode(1, 0), 0);
        SpreadGroups z = Due.told("volume 4 8 6 0 0 1;dir 0 0;dir 0 1;dir 0 2;");
        for (int name = 0; name < 5; name++) {
            z.make(18, name, 2);
        }
        due.is("the last inode of all", z.draw(seedFor(3, 23, 24), 1), 1);
        due.is("grows", z.inode(23, 3), got(seedFor(3, 23, 24))[3] % 9 + 1);
    }

    /** "A FRAGMENT is FREE, if it was not, and the other way round: whether it was FREE (1, 0). BAD." */
    private static void flips() {
        SpreadGroups x = some();
        for (int f : new int[] {-1, 32, -32, LEAST, MOST}) {
            due.refused("flip " + f, x, () -> x.flip(f), BAD);
        }
        String map = Due.mapOf(x, 0, 32);
        for (int f = 0; f < 32; f++) {
            int was = map.charAt(f) == 'f' ? 1 : 0;
            due.is("flip " + f, x.flip(f), was);
            due.map("that one alone", x, 0, map.substring(0, f) + (was == 1 ? 'x' : 'f') + map.substring(f + 1));
            due.is("who has it stays", x.fragment(f, 1) == NONE ? 1 : 0, was);
            due.is("the first that is wrong", x.check(2), f);
            due.is("flip " + f + " again", x.flip(f), 1 - was);
            due.is("as it was", x.check(2), NONE);
        }
    }

    /** "How many FRAGMENTS are FREE that an INODE has (what 0), are not FREE that none has (1); 2 the first of both kinds (NONE). BAD." */
    private static void checks() {
        SpreadGroups x = some();
        for (int what : new int[] {-1, 3, LEAST, MOST}) {
            due.refused("check " + what, x, () -> x.check(what), BAD);
        }
        due.are("nothing is wrong", new int[] {x.check(0), x.check(1), x.check(2)}, 0, 0, NONE);
        x.flip(31);
        due.are("the last is not free", new int[] {x.check(0), x.check(1), x.check(2)}, 0, 1, 31);
        x.flip(16);
        due.are("another is free, ahead", new int[] {x.check(0), x.check(1), x.check(2)}, 1, 1, 16);
        x.flip(15);
        due.are("another is not free, ahead", new int[] {x.check(0), x.check(1), x.check(2)}, 1, 2, 15);
        x.flip(0);
        due.are("the first is free", new int[] {x.check(0), x.check(1), x.check(2)}, 2, 2, 0);
        SpreadGroups y = some();
        for (int f = 0; f < 32; f++) {
            y.flip(f);
        }
        due.are("all are wrong", new int[] {y.check(0), y.check(1), y.check(2)}, 14, 18, 0);
    }

    /** "THE MAP becomes as INODES have it: how many FRAGMENTS were otherwise." */
    private static void mends() {
        SpreadGroups x = some();
        x.grow(5, 1);
        x.keep(0);
        due.refused("nothing was otherwise", x, x::mend, 0);
        String before = Due.allOf(x);
        for (int n = 1; n <= 32; n++) {
            for (int f = 0; f < n; f++) {
                x.flip(f);
            }
            due.is("mend of " + n, x.mend(), n);
            due.is("all as it was behind " + n, Due.allOf(x).equals(before) ? 1 : 0, 1);
        }
        due.is("the image is as it was", x.back(0), 4);
        due.is("all as it was", Due.allOf(x).equals(before) ? 1 : 0, 1);
    }

    /** "IMAGE k (0, 1) is THE MAP, all INODES, both counts: whether there was one (1, 0). BAD." */
    private static void keeps() {
        SpreadGroups x = some();
        for (int k : new int[] {-1, 2, LEAST, MOST}) {
            due.refused("keep " + k, x, () -> x.keep(k), BAD);
        }
        due.are("none is there", new int[] {x.keep(0), x.keep(0), x.keep(1), x.keep(1), x.keep(0)}, 0, 1, 0, 1, 1);
        String before = Due.allOf(x);
        x.keep(1);
        due.is("it changes nothing else", Due.allOf(x).equals(before) ? 1 : 0, 1);
        due.is("a text with a fault", x.text(), -10);
        due.is("leaves it", x.keep(0), 1);
        Due.tell(x, "volume 2 4 4 0 0 4;");
        due.are("a text that is taken does not", new int[] {x.keep(0), x.keep(1)}, 0, 0);
    }

    /** "All of that is as IMAGE k: INODES that are not nothing. BAD; STATE: there is none." */
    private static void backs() {
        SpreadGroups x = some();
        for (int k : new int[] {-1, 2, LEAST, MOST}) {
            due.refused("back " + k, x, () -> x.back(k), BAD);
        }
        due.refused("no image", x, () -> x.back(0), STATE);
        due.refused("no image", x, () -> x.back(1), STATE);
        x.keep(1);
        due.refused("the other is none", x, () -> x.back(0), STATE);
        due.is("this is one", x.back(1), 4);
        SpreadGroups y = Due.told("volume 1 1 1 0 0 1;");
        y.keep(0);
        due.is("the root alone", y.back(0), 1);
        y.flip(3);
        due.is("it is no deed: a spoilt map does not refuse it", y.back(0), 1);
        due.is("the map is back", y.check(2), NONE);
    }

    private static void imagesHoldAll() {
        SpreadGroups x = Due.told("volume 4 8 6 1 3 2;dir 0 0;dir 0 1;dir 0 2;file 3 9 11;");
        x.keep(0);
        x.keep(1);
        String first = Due.allOf(x);
        // Each way in which something changes, and back again; the last INODE and the last FRAGMENT, too.
        for (int change = 0; change < 9; change++) {
            switch (change) {
                case 0: x.flip(127); break;
                case 1: x.flip(0); break;
                case 2: x.grow(19, 1); break;
                case 3: x.grow(19, 2); break;
                case 4: x.shrink(19, 10); break;
                case 5: x.gather(19); break;
                case 6: x.move(19, 0, 5); break;
                case 7: x.remove(19); break;
                default:
                    for (int name = 0; name < 5; name++) {
                        x.make(18, name, 2);
                    }
            }
            due.is("change " + change, Due.allOf(x).equals(first) ? 1 : 0, 0);
            due.is("back from " + change, x.back(change % 2), 5);
            due.is("all is back from " + change, Due.allOf(x).equals(first) ? 1 : 0, 1);
        }
        x.feed('?');
        x.text();
        x.feed('v');
        x.back(0);
        due.are("the tape and the fault are not of it", new int[] {x.count(1), x.fault()}, 1, 1);
    }

    /** "How many: 0 IMAGES, 1 bytes on THE TAPE. BAD." */
    private static void counts() {
        SpreadGroups x = some();
        for (int what : new int[] {-1, 2, LEAST, MOST}) {
            due.refused("count " + what, x, () -> x.count(what), BAD);
        }
        due.are("none", new int[] {x.count(0), x.count(1)}, 0, 0);
        x.keep(1);
        x.feed(0);
        due.are("one", new int[] {x.count(0), x.count(1)}, 1, 1);
        x.keep(0);
        x.feed(0);
        due.are("two", new int[] {x.count(0), x.count(1)}, 2, 2);
        x.keep(0);
        x.back(0);
        for (int n = 3; n <= 201; n++) {
            x.feed(0);
        }
        due.are("no more", new int[] {x.count(0), x.count(1)}, 2, 200);
        x.end(0);
        due.is("no bytes", x.count(1), 0);
    }

    /** "deeds (STATE, behind BAD: THE MAP is SPOILT)": both ways of it, and no other call. */
    private static void spoiltRefusesDeedsAlone() {
        for (int f = 0; f < 32; f++) {
            SpreadGroups x = some();
            x.flip(f);
            due.are("deeds, spoilt at " + f, new int[] {
                x.make(0, 9, 1), x.make(0, 9, 2), x.grow(5, 1), x.shrink(5, 1), x.remove(5), x.move(5, 0, 9), x.gather(5), x.draw(1, 1),
            }, STATE, STATE, STATE, STATE, STATE, STATE, STATE, STATE);
            due.are("all else, spoilt at " + f, new int[] {
                x.rule(0), x.group(0, 2), x.inode(5, 3), x.block(5, 0), x.fragment(20, 1), x.find(0, 1), x.entry(0, 0), x.where(0, 2),
                x.check(2), x.keep(0), x.back(0), x.count(0), x.feed(' '), x.end(0), x.fault(),
            }, 2, 2, 9, 5, 5, 4, 4, 0, f, 0, 4, 1, 1, 1, 0);
            due.is("mended", x.mend(), 1);
            due.is("a deed again", x.move(5, 0, 9), 1);
        }
    }
}
