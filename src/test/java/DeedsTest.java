/** Promises 14 to 20: make, grow, shrink, remove, move, gather, draw. */
public final class DeedsTest {
    private static final int BAD = SpreadGroups.BAD, STATE = SpreadGroups.STATE;
    private static final int FULL = SpreadGroups.FULL, NONE = SpreadGroups.NONE;
    private static final int LEAST = Integer.MIN_VALUE, MOST = Integer.MAX_VALUE;
    private static final Due due = new Due("DeedsTest");

    public static void main(String[] args) {
        making();
        makingRefused();
        growingTails();
        growingToBlocks();
        shortestRuns();
        stepsAndRound();
        ledOn();
        growingRefused();
        shrinking();
        removing();
        moving();
        gathering();
        gatheringInOtherGroups();
        drawing();
        spoilt();
        due.end();
    }

    private static void making() {
        SpreadGroups x = new SpreadGroups();
        due.is("a directory", x.make(0, 3, 1), 4);
        due.is("its parent", x.inode(4, 1), 0);
        due.is("its name", x.inode(4, 2), 3);
        due.is("its size", x.inode(4, 3), 1);
        due.is("its tail", x.inode(4, 5), 16);
        due.is("not free", x.fragment(16, 0), 0);
        due.is("a file in it", x.make(4, 3, 2), 5);
        due.is("its kind", x.inode(5, 0), 2);
        due.is("its size", x.inode(5, 3), 0);
        due.is("its tail", x.inode(5, 5), NONE);
        due.is("room", x.rule(6), 30);
        due.is("a file in the root", x.make(0, 0, 2), 1);
        due.is("a directory again", x.make(4, 9, 1), 2);
        due.is("its tail behind the root's", x.inode(2, 5), 1);
        x.remove(1);
        // Nothing: two each; DIRECTORIES 2 and 1.
        due.is("where the fewest are", x.make(4, 7, 1), 6);
        due.is("its tail", x.inode(6, 5), 17);
        // Nothing: 2 and 1; 1 times 2 is below 3.
        due.is("the first inode that is nothing", x.make(6, 7, 1), 1);
        due.is("near its group", x.inode(1, 5), 2);
    }

    private static void makingRefused() {
        SpreadGroups x = Due.told("volume 1 1 3 0 1 1;file 0 5 0;");
        String before = Due.allOf(x);
        int[][] bad = {
            {-1, 0, 1}, {3, 0, 1}, {1, 0, 1}, {2, 0, 1}, {0, -1, 1}, {0, 10, 1}, {0, 0, 0}, {0, 0, 3}, {LEAST, 0, 1},
            {0, MOST, 1}, {0, 5, 3}, {0, 0, LEAST},
        };
        for (int[] b : bad) {
            due.is("make " + b[0] + " " + b[1] + " " + b[2], x.make(b[0], b[1], b[2]), BAD);
        }
        due.is("a name it has", x.make(0, 5, 1), STATE);
        due.is("a name it has", x.make(0, 5, 2), STATE);
        due.is("nothing changed", before.equals(Due.allOf(x)) ? 1 : 0, 1);
        due.is("up to the reserve", x.grow(1, 1), 1);
        due.is("a directory above the reserve", x.make(0, 1, 1), 2);
        due.is("remove", x.remove(2), 1);
        due.is("grow", x.grow(1, 1), 2);
        due.is("room is the reserve", x.rule(6), 1);
        due.is("a directory below the reserve", x.make(0, 1, 1), FULL);
        due.is("a file needs no room", x.make(0, 1, 2), 2);
        due.is("no inode", x.make(0, 2, 2), FULL);
        due.is("no inode", x.make(0, 2, 1), FULL);
        due.is("the name goes ahead", x.make(0, 5, 2), STATE);
        x = Due.told("volume 1 1 3 0 0 1;file 0 5 3;");
        due.is("no room", x.make(0, 1, 1), FULL);
    }

    private static void growingTails() {
        SpreadGroups x = Due.told("volume 1 4 4 0 0 4;file 0 0 0;file 0 1 0;");
        due.is("a first tail", x.grow(1, 1), 1);
        due.is("behind the root", x.inode(1, 5), 1);
        due.is("none is extended", x.rule(13), 0);
        due.is("extended", x.grow(1, 2), 3);
        due.is("where it was", x.inode(1, 5), 1);
        due.is("extended once", x.rule(13), 1);
        due.is("not moved", x.rule(14), 0);
        due.is("shrunk", x.shrink(1, 2), 1);
        due.is("another behind it", x.grow(2, 1), 1);
        due.is("another's tail", x.inode(2, 5), 2);
        due.is("in the way", x.grow(1, 1), 2);
        due.is("moved", x.inode(1, 5), 4);
        due.is("moved once", x.rule(14), 1);
        due.is("the old one is free", x.fragment(1, 0), 1);
        due.is("a tail at the end of a block", x.grow(2, 1), 2);
        due.is("extended twice", x.rule(13), 2);
        due.is("where it was", x.inode(2, 5), 2);
        // 4 5 are INODE 1's: 6 7 are no RUN of 3, 1 neither.
        due.is("not across the end of a block", x.grow(2, 1), 3);
        due.is("moved to a free block", x.inode(2, 5), 8);
        due.is("moved twice", x.rule(14), 2);
        x = Due.told("volume 1 4 4 0 0 4;file 0 0 1;file 0 1 2;");
        // INODE 2 at 2 3; 4 is FREE, but of another BLOCK.
        due.is("a tail that ends its block", x.grow(2, 1), 3);
        due.is("is not extended", x.rule(13) * 10 + x.rule(14), 1);
        due.is("but moved", x.inode(2, 5), 4);
    }

    private static void growingToBlocks() {
        SpreadGroups x = Due.told("volume 1 8 4 0 0 8;file 0 0 3;file 0 1 3;file 0 2 1;");
        // INODE 1 at 1 2 3, 2 at 4 5 6, 3 at 7
        due.is("moved to a block", x.grow(1, 1), 4);
        due.is("that block", x.block(1, 0), 2);
        due.is("no tail", x.inode(1, 5), NONE);
        due.is("moved", x.rule(14), 1);
        due.is("free again", x.group(0, 6), 1);
        due.is("not all else is free", x.grow(2, 2), 5);
        due.is("that block", x.block(2, 0), 3);
        due.is("its tail in the shortest", x.inode(2, 5), 1);
        due.is("moved", x.rule(14), 2);
        due.is("not at the beginning", x.grow(3, 3), 4);
        due.is("that block", x.block(3, 0), 4);
        due.is("moved", x.rule(14), 3);
        due.is("a tail behind a block", x.grow(1, 3), 7);
        due.is("its tail", x.inode(1, 5), 4);
        due.is("nothing was there ahead", x.rule(13) * 10 + x.rule(14), 3);
        due.is("all else is free", x.grow(1, 6), 13);
        due.is("the tail's block is next", x.block(1, 1), 1);
        due.is("then others", x.block(1, 2), 5);
        due.is("then a tail", x.inode(1, 5), 2);
        due.is("extended", x.rule(13), 1);
        due.is("not moved", x.rule(14), 3);
        due.is("check", x.check(2), NONE);
    }

    private static void shortestRuns() {
        SpreadGroups x = Due.told("volume 2 4 6 0 0 4;file 0 0 2;file 0 1 2;file 0 2 3;file 0 3 0;file 0 4 0;");
        // 0 ROOT, 1 2; 4 5; 8 9 10: RUNS 3, 6 7, 11
        due.is("the first of like ones", x.grow(4, 1), 1);
        due.is("that", x.inode(4, 5), 3);
        due.is("the other", x.grow(5, 2), 2);
        due.is("that", x.inode(5, 5), 6);
        due.is("the shortest", x.shrink(3, 2), 1);
        due.is("remove", x.remove(4), 1);
        // RUNS 3, 9 10 11
        due.is("make", x.make(0, 3, 2), 4);
        due.is("a longer one though a shorter is ahead", x.grow(4, 2), 2);
        due.is("its first two", x.inode(4, 5), 9);
        x = Due.told("volume 2 1 3 0 0 4;file 0 0 3;file 0 1 2;");
        due.is("in a group behind", x.inode(2, 5), 4);
        x = Due.told("volume 2 2 6 0 0 4;file 0 0 2;file 0 1 4;file 0 2 1;file 0 3 1;");
        due.is("full block", x.inode(4, 5), 8);
        x = Due.told("volume 2 2 6 0 0 4;dir 0 0;file 1 1 2;file 0 2 1;");
        // GROUP 1 has a RUN of 1 at 11, but GROUP 0 has one of 3: its own GROUP first.
        due.is("the own group first", x.inode(1, 5), 1);
    }

    private static void stepsAndRound() {
        SpreadGroups x = Due.told("volume 1 8 3 2 0 8;file 0 0 28;");
        // PLACES: 1 (0 is not FREE), 4, 7, 2 (7 and 3 is 10, modulo 8), 5, 3 (0 is not FREE, 1 2 neither), 6
        int[] places = {1, 4, 7, 2, 5, 3, 6};
        for (int k = 0; k < places.length; k++) {
            due.is("step 2, block " + k, x.block(1, k), places[k]);
        }
        due.is("pairs", x.inode(1, 6), 6);
        // 5 and 3 is 8, modulo 8 is 0, not 3
        due.is("those that follow", x.inode(1, 7), 5);
        x = Due.told("volume 2 4 4 3 0 8;file 0 0 20;");
        // STEP 3 of 4 BLOCKS: each wants the PLACE of the one before; then GROUP 1 from its first.
        int[] round = {1, 2, 3, 4, 5};
        for (int k = 0; k < round.length; k++) {
            due.is("step 3, block " + k, x.block(1, k), round[k]);
        }
        due.is("none follows", x.inode(1, 7), 0);
    }

    private static void ledOn() {
        SpreadGroups x = Due.told("volume 3 8 4 0 0 2;file 0 0 34;");
        // FREE ahead 7 8 8. k 2: 5 8 8 of 21: GROUP 1. k 4: 5 6 8 of 19: GROUP 2. k 6: 5 6 6 of 17: 5 times 3 is below
        int[] blocks = {1, 2, 8, 9, 16, 17, 10, 11, NONE};
        for (int k = 0; k < blocks.length; k++) {
            due.is("led on, block " + k, x.block(1, k), blocks[k]);
        }
        due.is("the tail near the last block", x.inode(1, 5), 48);
        due.is("pairs", x.inode(1, 6), 4);
        due.is("all follow", x.inode(1, 7), 4);
        x = Due.told("volume 2 4 4 0 0 1;dir 0 0;file 1 1 9;file 0 2 8;");
        // FREE 3 3. INODE 5: k 0: 5, k 1: 3 2 of 5: GROUP 0: 1; its TAIL near GROUP 0 behind the ROOT's.
        due.is("block 0", x.block(5, 0), 5);
        due.is("block 1", x.block(5, 1), 1);
        due.is("tail", x.inode(5, 5), 1);
        // FREE 2 2. INODE 1: k 0: 2, k 1: 1 2 of 3: GROUP 1
        due.is("block 0", x.block(1, 0), 2);
        due.is("block 1", x.block(1, 1), 6);
        due.is("no pairs", x.rule(11), 0);
        x = Due.told("volume 1 8 2 1 0 2;file 0 0 16;");
        // One GROUP: led on to itself, from PLACE 0.
        int[] itself = {1, 3, 2, 4};
        for (int k = 0; k < itself.length; k++) {
            due.is("led on to itself, block " + k, x.block(1, k), itself[k]);
        }
        x = Due.told("volume 2 4 4 0 0 2;dir 0 0;file 1 1 9;file 1 2 1;");
        // INODE 5: 5 6, led on to no other yet; FREE 3 1.
        due.is("grow", x.grow(5, 3), 12);
        due.is("led on", x.block(5, 2), 1);
        due.is("grow", x.grow(5, 4), 16);
        due.is("its place behind", x.block(5, 3), 2);
        due.is("free", x.group(0, 1) * 10 + x.group(1, 1), 11);
        due.is("grow", x.grow(5, 4), 20);
        due.is("led on to the other of like ones", x.block(5, 4), 7);
        x = Due.told("volume 2 8 6 2 0 1;dir 0 0;file 1 1 4;file 1 2 4;file 1 3 4;file 0 4 8;");
        // FREE 6 4 when INODE 1 has one: the other GROUP has too few, so that itself, from PLACE 0.
        due.is("block 0", x.block(1, 0), 1);
        due.is("led on to the group itself", x.block(1, 1), 2);
    }

    private static void growingRefused() {
        SpreadGroups x = Due.told("volume 1 4 4 0 2 8;file 0 0 3;dir 0 1;file 0 2 0;");
        int[][] bad = {{-1, 1}, {4, 1}, {0, 1}, {2, 1}, {1, 0}, {1, -1}, {1, 41}, {LEAST, 1}, {MOST, 1}, {1, LEAST}, {1, MOST}};
        String before = Due.allOf(x);
        for (int[] b : bad) {
            due.is("grow " + b[0] + " " + b[1], x.grow(b[0], b[1]), BAD);
        }
        due.is("above 40", x.grow(1, 38), FULL);
        due.is("below the reserve", x.grow(3, 10), FULL);
        due.is("nothing changed", before.equals(Due.allOf(x)) ? 1 : 0, 1);
        due.is("down to the reserve", x.grow(3, 9), 9);
        due.is("room", x.rule(6), 2);
        x = Due.told("volume 1 4 4 0 0 8;file 0 0 3;file 0 1 3;file 0 2 3;");
        before = Due.allOf(x);
        // ROOM is 6: BLOCK 3 and what is left in BLOCKS 1 and 2, so a second BLOCK can not be TAKEN.
        due.is("room", x.rule(6), 6);
        due.is("blocks can not be taken", x.grow(1, 6), FULL);
        due.is("nothing changed", before.equals(Due.allOf(x)) ? 1 : 0, 1);
        x = Due.told("volume 1 3 4 0 0 8;file 0 0 3;file 0 1 2;file 0 2 1;");
        before = Due.allOf(x);
        // ROOM is 5: a BLOCK, then of 1 2 3 (free again) a RUN, and 7
        due.is("a run of what was its own", x.grow(1, 4), 7);
        due.is("that run", x.inode(1, 5), 1);
        due.is("counted", x.rule(14), 1);
        x = Due.told("volume 1 2 4 0 0 8;file 0 0 2;file 0 1 2;");
        due.is("one behind", x.make(0, 2, 2), 3);
        due.is("one behind", x.grow(3, 1), 1);
        before = Due.allOf(x);
        due.is("a run can not be taken", x.grow(1, 1), FULL);
        due.is("a block can not be taken", x.grow(1, 2), FULL);
        due.is("nothing changed", before.equals(Due.allOf(x)) ? 1 : 0, 1);
        x = Due.told("volume 1 8 2 0 0 8;file 0 0 28;");
        due.is("grow to all", x.grow(1, 3), 31);
        due.is("room", x.rule(6), 0);
        x = Due.told("volume 2 8 2 0 0 8;file 0 0 40;");
        due.is("40 are the most", x.inode(1, 4), 10);
        due.is("above", x.grow(1, 1), FULL);
    }

    private static void shrinking() {
        SpreadGroups x = Due.told("volume 1 8 4 1 0 8;file 0 0 15;file 0 1 1;dir 0 2;");
        // BLOCKS 1 3 5, TAIL 1 2 3
        due.is("a tail shrinks", x.shrink(1, 1), 14);
        due.is("the first of it", x.inode(1, 5), 1);
        due.is("the rest is free", x.fragment(3, 0), 1);
        due.is("still its own", x.fragment(2, 1), 1);
        due.is("a tail goes", x.shrink(1, 2), 12);
        due.is("no tail", x.inode(1, 5), NONE);
        due.is("free", x.fragment(1, 0) + x.fragment(2, 0), 2);
        due.is("a block's first are a tail", x.shrink(1, 1), 11);
        due.is("these", x.inode(1, 5), 20);
        due.is("blocks", x.inode(1, 4), 2);
        due.is("free", x.fragment(22, 0) * 10 + x.fragment(23, 0), 1);
        due.is("more than a block", x.shrink(1, 6), 5);
        due.is("a tail of an older block", x.inode(1, 5), 12);
        due.is("one block", x.block(1, 1), NONE);
        due.is("free", x.rule(6), 32 - 1 - 5 - 1 - 1);
        due.is("check", x.check(2), NONE);
        int[][] bad = {{1, 0}, {1, 6}, {1, -1}, {1, LEAST}, {1, MOST}, {0, 1}, {3, 1}, {-1, 1}, {4, 1}, {MOST, 1}};
        for (int[] b : bad) {
            due.is("shrink " + b[0] + " " + b[1], x.shrink(b[0], b[1]), BAD);
        }
        due.is("to nothing", x.shrink(1, 5), 0);
        due.is("it is a file yet", x.inode(1, 0), 2);
        due.is("no tail", x.inode(1, 5), NONE);
        due.is("nothing is left", x.shrink(1, 1), BAD);
        due.is("room", x.rule(6), 29);
        due.is("not counted", x.rule(13) + x.rule(14), 0);
    }

    private static void removing() {
        SpreadGroups x = Due.told("volume 1 8 6 0 0 8;dir 0 0;file 1 1 9;dir 0 2;file 0 3 0;");
        due.is("the root", x.remove(0), STATE);
        due.is("one that has others", x.remove(1), STATE);
        due.is("nothing", x.remove(5), BAD);
        due.is("no inode", x.remove(6), BAD);
        due.is("no inode", x.remove(-1), BAD);
        due.is("no inode", x.remove(LEAST), BAD);
        due.is("a file", x.remove(2), 9);
        due.is("nothing then", x.inode(2, 0), 0);
        due.is("no name", x.find(1, 1), NONE);
        due.is("once only", x.remove(2), BAD);
        due.is("a directory", x.remove(1), 1);
        due.is("its name is gone", x.find(0, 0), NONE);
        due.is("another", x.remove(3), 1);
        due.is("a file of size 0", x.remove(4), 0);
        due.is("room", x.rule(6), 31);
        due.is("inodes", x.group(0, 2), 5);
        due.is("check", x.check(2), NONE);
    }

    private static void moving() {
        SpreadGroups x = Due.told("volume 1 8 6 0 0 8;dir 0 0;dir 1 0;dir 2 0;file 0 1 5;");
        due.is("deep", x.move(4, 3, 9), 4);
        due.is("parent", x.inode(4, 1), 3);
        due.is("name", x.inode(4, 2), 9);
        due.is("found", x.find(3, 9), 4);
        due.is("no more there", x.find(0, 1), NONE);
        due.is("nothing is taken", x.inode(4, 3), 5);
        due.is("into itself", x.move(2, 2, 5), STATE);
        due.is("into what lies in it", x.move(1, 3, 5), STATE);
        due.is("into its child", x.move(2, 3, 5), STATE);
        due.is("the root", x.move(0, 1, 5), STATE);
        due.is("the root into itself", x.move(0, 0, 5), STATE);
        due.is("the same again", x.move(4, 3, 9), 4);
        due.is("another name", x.move(4, 3, 8), 4);
        due.is("a directory up", x.move(3, 0, 5), 1);
        due.is("what is in it goes along", x.move(4, 3, 0), 2);
        due.is("a name that is there", x.move(3, 1, 0), STATE);
        due.is("a name that is there", x.move(3, 0, 0), STATE);
        int[][] bad = {
            {5, 0, 1}, {6, 0, 1}, {-1, 0, 1}, {4, 4, 1}, {4, 5, 1}, {4, 6, 1}, {4, -1, 1}, {4, 0, -1}, {4, 0, 10},
            {0, 4, 1}, {0, 0, 10}, {LEAST, 0, 0}, {4, MOST, 0}, {4, 0, MOST},
        };
        for (int[] b : bad) {
            due.is("move " + b[0] + " " + b[1] + " " + b[2], x.move(b[0], b[1], b[2]), BAD);
        }
        due.is("where it was", x.inode(4, 1) * 10 + x.inode(4, 2), 30);
    }

    private static void gathering() {
        SpreadGroups x = Due.told("volume 1 8 6 0 0 8;file 0 0 8;file 0 1 4;file 0 2 4;dir 0 3;");
        x.grow(2, 4);
        // INODE 1: 1 2; 2: 3 5; 3: 4; FREE: 6 7
        due.is("apart", x.inode(2, 7), 0);
        due.is("gathered", x.gather(2), 1);
        due.is("block 0", x.block(2, 0), 6);
        due.is("block 1", x.block(2, 1), 7);
        due.is("moved", x.rule(14), 2);
        due.is("the old ones are free", x.fragment(12, 0) + x.fragment(20, 0), 2);
        due.is("3 and 5 are no row", x.gather(1), FULL);
        due.is("one block", x.gather(3), STATE);
        due.is("a directory", x.gather(4), BAD);
        due.is("the root", x.gather(0), BAD);
        due.is("nothing", x.gather(5), BAD);
        due.is("no inode", x.gather(6), BAD);
        due.is("no inode", x.gather(-1), BAD);
        due.is("no inode", x.gather(LEAST), BAD);
        due.is("moved no more", x.rule(14), 2);
        due.is("check", x.check(2), NONE);
        x = Due.told("volume 1 8 3 1 0 8;file 0 0 9;");
        // BLOCKS 1 3, TAIL 1: by STEP the first is 2 4
        due.is("by the step", x.gather(1), 1);
        due.is("block 0", x.block(1, 0), 2);
        due.is("block 1", x.block(1, 1), 4);
        due.is("the tail stays", x.inode(1, 5), 1);
        due.is("back again", x.gather(1), 1);
        due.is("block 0", x.block(1, 0), 1);
        due.is("moved", x.rule(14), 4);
        x = Due.told("volume 1 8 3 2 0 2;file 0 0 12;");
        // 1 4, led on 2: p, p and 3, p and 6 below 8 are 0 3 6 and 1 4 7
        due.is("no row below B", x.gather(1), FULL);
        x = Due.told("volume 2 4 4 0 0 4;file 0 0 8;");
        // 1 2; FREE in GROUP 0 is 3 alone
        due.is("no row over the end of a group", x.gather(1), 1);
        due.is("the first of the next", x.block(1, 0) * 10 + x.block(1, 1), 45);
    }

    private static void gatheringInOtherGroups() {
        SpreadGroups x = Due.told("volume 3 4 4 0 0 2;dir 0 0;file 1 1 12;file 0 2 4;");
        // INODE 5 in GROUP 1: 5 6, led on to GROUP 2: 8; INODE 1: 1
        due.is("block 2", x.block(5, 2), 8);
        due.is("its own group has too few, the next has them", x.gather(5), 1);
        due.is("block 0", x.block(5, 0), 9);
        due.is("block 2", x.block(5, 2), 11);
        due.is("moved", x.rule(14), 3);
        due.is("its own group first", x.gather(5), 1);
        due.is("block 0", x.block(5, 0), 5);
        due.is("block 2", x.block(5, 2), 7);
        due.is("round", x.gather(1), STATE);
    }

    private static void drawing() {
        SpreadGroups x = new SpreadGroups();
        int[][] bad = {{1, 0}, {1, -1}, {1, 21}, {1, LEAST}, {1, MOST}};
        String before = Due.allOf(x);
        for (int[] b : bad) {
            due.is("draw " + b[0] + " " + b[1], x.draw(b[0], b[1]), BAD);
        }
        due.is("nothing changed", before.equals(Due.allOf(x)) ? 1 : 0, 1);
        int[] seeds = {0, 1, -1, 7, 12345, LEAST, MOST, 99, -77, 31337};
        for (int round = 0; round < 40; round++) {
            int seed = seeds[round % seeds.length] + round / seeds.length;
            int n = round % 20 + 1;
            SpreadGroups byHand = Due.told("volume 3 6 4 1 5 3;dir 0 1;file 0 2 3;");
            SpreadGroups drawn = Due.told("volume 3 6 4 1 5 3;dir 0 1;file 0 2 3;");
            due.is("draw " + seed + " " + n, drawn.draw(seed, n), drawByHand(byHand, seed, n));
            due.is("all alike", Due.allOf(drawn).equals(Due.allOf(byHand)) ? 1 : 0, 1);
        }
    }

    private static int drawByHand(SpreadGroups x, int seed, int n) {
        int answered = 0;
        long now = seed & 0xffffffffL;
        for (int deed = 0; deed < n; deed++) {
            int[] got = new int[4];
            for (int g = 0; g < 4; g++) {
                now = (now * 1103515245L + 12345L) & 0xffffffffL;
                got[g] = (int) (now / 65536 % 32768);
            }
            int a = got[1] % (x.rule(0) * x.rule(2));
            int answer;
            switch (got[0] % 6) {
                case 0: answer = x.make(a, got[2] % 10, 1); break;
                case 1: case 2:
                    answer = x.make(a, got[2] % 10, 2);
                    if (answer >= 0) {
                        answer = x.grow(answer, got[3] % 9 + 1);
                    }
                    break;
                case 3: case 4: answer = x.grow(a, got[3] % 9 + 1); break;
                default: answer = x.remove(a);
            }
            answered += answer >= 0 ? 1 : 0;
        }
        return answered;
    }

    private static void spoilt() {
        for (int f = 0; f < 32; f += 31) {
            SpreadGroups x = Due.told("volume 1 8 6 0 0 8;dir 0 0;file 0 1 9;");
            x.flip(f);
            String before = Due.allOf(x);
            due.is("make", x.make(0, 5, 2), STATE);
            due.is("make, bad", x.make(0, 10, 2), BAD);
            due.is("grow", x.grow(2, 1), STATE);
            due.is("grow, full", x.grow(2, 40), STATE);
            due.is("grow, bad", x.grow(2, 41), BAD);
            due.is("shrink", x.shrink(2, 1), STATE);
            due.is("shrink, bad", x.shrink(2, 10), BAD);
            due.is("remove", x.remove(2), STATE);
            due.is("remove, bad", x.remove(3), BAD);
            due.is("move", x.move(2, 1, 1), STATE);
            due.is("move, bad", x.move(2, 2, 1), BAD);
            due.is("gather", x.gather(2), STATE);
            due.is("gather, bad", x.gather(1), BAD);
            due.is("draw", x.draw(5, 5), STATE);
            due.is("draw, bad", x.draw(5, 0), BAD);
            due.is("nothing changed", before.equals(Due.allOf(x)) ? 1 : 0, 1);
            x.flip(f);
            due.is("a deed again", x.make(0, 5, 2), 3);
        }
    }
}
