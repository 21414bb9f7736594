/**
 * The edges that the document names in 1 A VOLUME: bounds of its six numbers, how things are numbered, NAMES, SIZES,
 * TAILS, what is FREE, ANEW.
 * A method's comment has the sentence that it would see broken; one without goes on with the sentence ahead.
 */
public final class VolumeEdgesTest {
    private static final int BAD = SpreadGroups.BAD, STATE = SpreadGroups.STATE;
    private static final int FULL = SpreadGroups.FULL, NONE = SpreadGroups.NONE;
    private static final Due due = new Due("VolumeEdgesTest");

    private static final int[] LEAST = {1, 1, 1, 0, 0, 1};
    private static final int[] MOST = {4, 8, 6, 3, 99, 8};

    public static void main(String[] args) {
        bounds();
        leastAndMostTogether();
        smallestVolume();
        largestVolume();
        volumeAtFirst();
        anInodeMore();
        rootIsAlone();
        namesOfAParent();
        sizes();
        tailsLieInOneBlock();
        directoriesHaveATail();
        freeBlocks();
        room();
        anew();
        lastOfManyCalls();
        due.end();
    }

    private static String volume(int[] numbers) {
        StringBuilder text = new StringBuilder("volume");
        for (int n : numbers) {
            text.append(' ').append(n);
        }
        return text.append(';').toString();
    }

    /** "G GROUPS (1 to 4), each of B BLOCKS (1 to 8) and I INODES (1 to 6); STEP (0 to 3), RESERVE (0 to 99), LIMIT (1 to 8)." */
    private static void bounds() {
        for (int which = 0; which < 6; which++) {
            for (int value = LEAST[which]; value <= MOST[which]; value++) {
                int[] numbers = {2, 3, 2, 1, 5, 2};
                numbers[which] = value;
                SpreadGroups x = new SpreadGroups();
                due.is(volume(numbers), Due.tell(x, volume(numbers)), 1);
                due.is(volume(numbers) + " rule " + which, x.rule(which), value);
            }
            StringBuilder marked = new StringBuilder("volume");
            for (int ahead = 0; ahead < which; ahead++) {
                marked.append(" 1");
            }
            if (LEAST[which] == 1) {
                due.fault(3, marked + " ^0");
            } else {
                // What is below 0 can not be written: the sign is no TOKEN.
                due.fault(1, marked + " ^-1");
            }
            due.fault(which == 4 ? 1 : 3, marked + " ^" + (MOST[which] + 1));
            due.fault(which == 4 ? 2 : 3, marked + " " + (which == 4 ? "99^" : "^99"));
        }
    }

    private static void leastAndMostTogether() {
        for (int[] numbers : new int[][] {LEAST, MOST}) {
            SpreadGroups x = new SpreadGroups();
            due.is(volume(numbers), Due.tell(x, volume(numbers)), 1);
            for (int which = 0; which < 6; which++) {
                due.is(volume(numbers) + " rule " + which, x.rule(which), numbers[which]);
            }
        }
    }

    private static void numbersOf(SpreadGroups x, int groups, int inodes, int fragments) {
        due.is("the last group", x.group(groups - 1, 0) == BAD ? 1 : 0, 0);
        due.is("a group behind the last", x.group(groups, 0), BAD);
        due.is("the last inode", x.inode(inodes - 1, 0) == BAD ? 1 : 0, 0);
        due.is("an inode behind the last", x.inode(inodes, 0), BAD);
        due.is("block of the last inode", x.block(inodes - 1, 0), NONE);
        due.is("block of an inode behind the last", x.block(inodes, 0), BAD);
        int out = inodes;
        due.are("calls of an inode behind the last", new int[] {
            x.find(out, 0), x.entry(out, 0), x.where(out, 1), x.where(out, 2), x.make(out, 0, 1), x.make(out, 0, 2), x.grow(out, 1),
            x.shrink(out, 1), x.remove(out), x.move(out, 0, 0), x.move(0, out, 0), x.gather(out),
        }, BAD, BAD, BAD, BAD, BAD, BAD, BAD, BAD, BAD, BAD, BAD, BAD);
        due.is("the last fragment", x.fragment(fragments - 1, 0), 1);
        due.is("a fragment behind the last", x.fragment(fragments, 0), BAD);
        due.is("who has a fragment behind the last", x.fragment(fragments, 1), BAD);
        due.is("a fragment behind the last is not flipped", x.flip(fragments), BAD);
        due.is("the last is", x.flip(fragments - 1), 1);
        due.is("and is seen", x.check(2), fragments - 1);
        due.is("as not free, had by none", x.check(0) * 10 + x.check(1), 1);
        due.is("and mended", x.mend(), 1);
        due.is("the first is flipped", x.flip(0), 0);
        due.is("and is seen", x.check(2), 0);
        due.is("as free, had by one", x.check(0) * 10 + x.check(1), 10);
        due.is("and mended", x.mend(), 1);
    }

    /** One GROUP of one BLOCK and one INODE: the ROOT is all that fits. */
    private static void smallestVolume() {
        SpreadGroups x = Due.told("volume 1 1 1 0 0 1;");
        numbersOf(x, 1, 1, 4);
        due.is("room", x.rule(6), 3);
        due.is("free blocks", x.rule(7), 0);
        due.is("where", x.where(0, 1), NONE);
        due.is("where", x.where(0, 2), NONE);
        due.refused("no inode for a file", x, () -> x.make(0, 0, 2), FULL);
        due.refused("no inode for a directory", x, () -> x.make(0, 0, 1), FULL);
        due.refused("the root stays", x, () -> x.remove(0), STATE);
        due.refused("all drawn deeds are refused", x, () -> x.draw(1, 20), 0);
        // Two GROUPS of one INODE: the FILE's own GROUP is the second, its BLOCK and its TAIL lie there first.
        SpreadGroups y = Due.told("volume 2 1 1 3 0 1;");
        due.is("where", y.where(0, 2), 1);
        due.is("the second group's inode", y.make(0, 9, 2), 1);
        due.is("its block", y.grow(1, 4), 4);
        due.is("is the second group's", y.block(1, 0), 1);
        due.refused("no other block", y, () -> y.grow(1, 4), FULL);
        due.is("its tail", y.grow(1, 3), 7);
        due.is("lies behind the root's", y.inode(1, 5), 1);
        due.is("shrunk", y.shrink(1, 4), 3);
        due.is("its tail is of the block", y.inode(1, 5), 4);
        due.is("extended to a block again", y.grow(1, 1), 4);
        due.is("the same", y.block(1, 0), 1);
        due.is("counted", y.rule(13) * 10 + y.rule(14), 10);
    }

    /** "BLOCK b of GROUP g has the number g times B and b ...; FRAGMENTS ... 4 a BLOCK; INODES likewise, I a GROUP." */
    private static void largestVolume() {
        SpreadGroups x = Due.told("volume 4 8 6 0 0 8;dir 0 0;dir 0 1;dir 0 2;file 3 3 28;");
        numbersOf(Due.told("volume 4 8 6 0 0 8;"), 4, 24, 128);
        due.is("a directory in the second group", x.find(0, 0), 6);
        due.is("in the third", x.find(0, 1), 12);
        due.is("in the last", x.find(0, 2), 18);
        due.are("their tails", new int[] {x.inode(6, 5), x.inode(12, 5), x.inode(18, 5)}, 32, 64, 96);
        due.is("the file by its directory", x.find(18, 3), 19);
        due.are("its blocks", Due.blocksOf(x, 19), 25, 26, 27, 28, 29, 30, 31);
        due.is("the last fragment is its own", x.fragment(127, 1), 19);
        due.is("and not free", x.fragment(127, 0), 0);
        due.is("the first of its last block", x.fragment(124, 1), 19);
        due.is("the last of the block ahead of its first", x.fragment(99, 1), NONE);
        for (int name = 0; name < 4; name++) {
            due.is("an inode of the last group", x.make(18, name + 4, 2), 20 + name);
        }
        due.is("the last inode is a file", x.inode(23, 0), 2);
        due.is("what is behind it is none", x.inode(24, 0), BAD);
        due.is("the last group is full of inodes", x.group(3, 2), 0);
        due.is("then the first group's", x.make(18, 8, 2), 1);
        due.is("the last inode grows", x.grow(23, 3), 3);
        due.is("behind its directory's tail", x.inode(23, 5), 97);
        due.is("it shrinks", x.shrink(23, 1), 2);
        due.is("it moves", x.move(23, 0, 9), 1);
        due.is("it is found", x.find(0, 9), 23);
        due.is("it goes", x.remove(23), 2);
        due.is("it is nothing", x.inode(23, 0), 0);
    }

    /** "(At first 2 GROUPS of 4 BLOCKS and 4 INODES, STEP 0, RESERVE 0, LIMIT 4.)" */
    private static void volumeAtFirst() {
        SpreadGroups x = new SpreadGroups();
        int[] rules = new int[6];
        for (int what = 0; what < 6; what++) {
            rules[what] = x.rule(what);
        }
        due.are("rules at first", rules, 2, 4, 4, 0, 0, 4);
        numbersOf(new SpreadGroups(), 2, 8, 32);
    }

    /** All INODES in use: the last one that is made is in, one more is FULL. */
    private static void anInodeMore() {
        SpreadGroups x = Due.told("volume 4 8 6 0 0 8;");
        int made = 1;
        for (int n = 0; n < 23; n++) {
            // Three DIRECTORIES first, so that names do not run out.
            int parent = n < 3 ? 0 : x.find(0, n % 3);
            made += x.make(parent, n < 3 ? n : n / 3, n < 3 ? 1 : 2) > 0 ? 1 : 0;
        }
        due.is("made", made, 24);
        due.is("inodes that are there", x.rule(8) + x.rule(9), 24);
        due.refused("one more file", x, () -> x.make(0, 9, 2), FULL);
        due.refused("one more directory", x, () -> x.make(0, 9, 1), FULL);
        due.is("where", x.where(0, 1), NONE);
        due.is("where", x.where(0, 2), NONE);
        due.is("a file goes", x.remove(x.find(x.find(0, 2), 3)), 0);
        due.is("one more file", x.make(0, 9, 2) > 0 ? 1 : 0, 1);
        due.is("again full", x.make(0, 8, 2), FULL);
    }

    /** "but for INODE 0, the ROOT, a DIRECTORY, it has a PARENT, a DIRECTORY, and a NAME" */
    private static void rootIsAlone() {
        SpreadGroups x = Due.told("volume 1 4 3 0 0 4;dir 0 0;");
        due.are("the root", new int[] {x.inode(0, 0), x.inode(0, 1), x.inode(0, 2)}, 1, NONE, NONE);
        due.are("another", new int[] {x.inode(1, 0), x.inode(1, 1), x.inode(1, 2)}, 1, 0, 0);
        due.is("the root is not in itself", x.entry(0, 1), NONE);
    }

    /** "a NAME (0 to 9) there, that no other one of that PARENT has" */
    private static void namesOfAParent() {
        SpreadGroups x = Due.told("volume 2 8 6 0 0 4;");
        int d = x.make(0, 0, 1);
        for (int name = 1; name <= 9; name++) {
            due.is("a file named " + name, x.make(0, name, 2) > 0 ? 1 : 0, 1);
        }
        for (int name = 0; name <= 9; name++) {
            int n = name;
            due.refused("a second named " + name, x, () -> x.make(0, n, 2), STATE);
        }
        due.is("in another parent it may be", x.make(d, 9, 2) > 0 ? 1 : 0, 1);
        due.refused("but once only", x, () -> x.make(d, 9, 1), STATE);
        due.refused("below the first name", x, () -> x.make(0, -1, 2), BAD);
        due.refused("above the last name", x, () -> x.make(0, 10, 2), BAD);
    }

    /** "A FILE has a SIZE, 0 to 40 FRAGMENTS: a quarter of it (down) BLOCKS, 0 on, and what is left, if any, as TAIL" */
    private static void sizes() {
        for (int size = 0; size <= 40; size++) {
            SpreadGroups told = Due.told("volume 2 8 2 0 0 8;file 0 0 " + size + ";");
            SpreadGroups grown = Due.told("volume 2 8 2 0 0 8;file 0 0 0;");
            if (size > 0) {
                due.is("grow by " + size, grown.grow(1, size), size);
            }
            for (SpreadGroups x : new SpreadGroups[] {told, grown}) {
                due.is("size " + size, x.inode(1, 3), size);
                due.is("blocks of size " + size, x.inode(1, 4), size / 4);
                due.is("the last block of size " + size, size < 4 || x.block(1, size / 4 - 1) >= 0 ? 1 : 0, 1);
                due.is("no block behind of size " + size, x.block(1, size / 4), NONE);
                due.is("a tail of size " + size, x.inode(1, 5) == NONE ? 0 : 1, size % 4 == 0 ? 0 : 1);
                due.is("room of size " + size, x.rule(6), 63 - size);
                due.is("what it has is not free, size " + size, x.check(2), NONE);
            }
        }
        due.fault(3, "volume 2 8 2 0 0 8;file 0 0 ^41;");
        SpreadGroups x = Due.told("volume 2 8 2 0 0 8;file 0 0 40;");
        due.refused("above 40", x, () -> x.grow(1, 1), FULL);
        due.refused("one more than may be grown by", x, () -> x.grow(1, 41), BAD);
    }

    /** "TAIL: 1 to 3 FRAGMENTS one behind another in one BLOCK" */
    private static void tailsLieInOneBlock() {
        for (int first = 1; first <= 3; first++) {
            for (int second = 1; second <= 3; second++) {
                SpreadGroups x = Due.told("volume 1 8 3 0 0 8;file 0 0 " + first + ";file 0 1 " + second + ";");
                int at = x.inode(2, 5);
                // Behind the ROOT's and the first one's, if that has room enough.
                due.is("tails " + first + " " + second, at, 1 + first + second <= 4 ? 1 + first : 4);
                for (int f = at; f < at + second; f++) {
                    due.is("who has " + f, x.fragment(f, 1), 2);
                }
                due.is("who has the next", x.fragment(at + second, 1), NONE);
            }
        }
    }

    /** "A DIRECTORY has SIZE 1 (a TAIL)." */
    private static void directoriesHaveATail() {
        SpreadGroups x = Due.told("volume 1 2 4 0 0 4;dir 0 0;");
        due.are("a directory", new int[] {x.inode(1, 3), x.inode(1, 4), x.inode(1, 5), x.inode(1, 6)}, 1, 0, 1, 0);
        due.is("it has no block", x.block(1, 0), NONE);
        due.refused("it does not grow", x, () -> x.grow(1, 1), BAD);
        due.refused("it does not shrink", x, () -> x.shrink(1, 1), BAD);
        due.refused("it is not gathered", x, () -> x.gather(1), BAD);
        due.is("it goes", x.remove(1), 1);
        due.map("its fragment is free", x, 0, "xfffffff");
    }

    /** "A BLOCK is FREE, if all its FRAGMENTS are." */
    private static void freeBlocks() {
        SpreadGroups x = Due.told("volume 2 2 1 0 0 1;");
        due.is("free blocks", x.rule(7), 3);
        for (int f = 4; f < 16; f++) {
            x.flip(f);
            due.is("one less by fragment " + f, x.rule(7), 2);
            due.is("one less in its group by " + f, x.group(f / 8, 1), f < 8 ? 0 : 1);
            x.flip(f);
            due.is("free again, " + f, x.rule(7), 3);
        }
        due.is("of the first block three are free", x.group(0, 1), 1);
        x.flip(0);
        due.is("the first block is free too", x.rule(7), 4);
        due.is("in its group too", x.group(0, 1), 2);
        due.is("no runs there", x.group(0, 6), 0);
        for (int f = 0; f < 16; f++) {
            x.flip(f);
        }
        due.is("none is free", x.rule(7), 0);
        due.is("nor any fragment", x.rule(6), 0);
    }

    /** "ROOM: how many FRAGMENTS are FREE." */
    private static void room() {
        SpreadGroups x = Due.told("volume 2 2 1 0 0 1;");
        due.is("room", x.rule(6), 15);
        x.flip(15);
        due.is("the last is not free", x.rule(6), 14);
        due.is("in its group", x.group(1, 0), 7);
        x.flip(0);
        due.is("the first is free", x.rule(6), 15);
        due.is("in its group", x.group(0, 0), 8);
    }

    /** "ANEW: THE MAP is FREE but for ... FRAGMENT 0; no other INODES; counts are 0, IMAGES are gone." */
    private static void anew() {
        SpreadGroups x = Due.told("volume 2 4 4 0 0 4;file 0 0 1;file 0 1 1;");
        x.grow(1, 1);
        x.grow(2, 1);
        due.are("counts", new int[] {x.rule(13), x.rule(14)}, 1, 1);
        x.keep(0);
        x.keep(1);
        x.flip(30);
        due.is("told again", Due.tell(x, "volume 2 2 2 0 0 4;"), 1);
        due.map("the map", x, 0, "xfffffffffffffff");
        due.are("no other inodes", new int[] {x.inode(1, 0), x.inode(2, 0), x.inode(3, 0)}, 0, 0, 0);
        due.are("counts", new int[] {x.rule(13), x.rule(14)}, 0, 0);
        due.are("images", new int[] {x.count(0), x.back(0), x.back(1)}, 0, STATE, STATE);
        due.is("a larger one then", Due.tell(x, "volume 4 8 6 0 0 4;"), 1);
        due.is("room", x.rule(6), 127);
        due.is("check", x.check(2), NONE);
        for (int i = 1; i < 24; i++) {
            due.is("nothing at " + i, x.inode(i, 0), 0);
        }
        due.is("a name is not there", x.find(0, 0), NONE);
    }

    /** "An object is used for at most 512 calls": the last of them answers yet. */
    private static void lastOfManyCalls() {
        SpreadGroups x = new SpreadGroups();
        int i = x.make(0, 0, 2);
        for (int call = 1; call < 511; call += 2) {
            due.is("call " + call, x.grow(i, 9), 9);
            due.is("call " + (call + 1), x.shrink(i, 9), 0);
        }
        due.is("the last call", x.grow(i, 9), 9);
    }
}
