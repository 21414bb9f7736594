/**
 * The edges that the document names in 2 for GROUPS BEHIND, the GROUP for an INODE, TAKING a BLOCK, TAKING a RUN, and
 * where BLOCK k and a TAIL are near to.
 * A method's comment has the sentence that it would see broken; one without goes on with the sentence ahead.
 */
public final class TakingEdgesTest {
    private static final int FULL = SpreadGroups.FULL, NONE = SpreadGroups.NONE;
    private static final Due due = new Due("TakingEdgesTest");

    public static void main(String[] args) {
        groupsBehindRound();
        oneGroup();
        groupForADirectory();
        groupForADirectoryByTheLeastThatFits();
        groupForAFile();
        firstInodeThere();
        blockFromItsPlaceOn();
        blockRound();
        blockRoundStaysInItsGroup();
        blockInGroupsOfOne();
        blockInAGroupBehind();
        blockInTheFirstGroupRound();
        blockOfAnotherGroupIsItsFirst();
        shortestRun();
        likeRuns();
        runsAheadOfFreeBlocks();
        runsEndWithTheirBlock();
        runsInGroupsBehind();
        runOfTheNextGroup();
        runInTheFirstGroupRound();
        whatIsTakenIsNotFree();
        firstBlockOfAFile();
        ledOnAtMultiplesOfLimit();
        ledOnAtLimitEight();
        ledOnIfAtLeast();
        ledOnRoundFourGroups();
        ledOnFromPlaceNought();
        ledOnWithoutAFreeBlock();
        stepModuloBlocks();
        tailNearTheLastBlock();
        due.end();
    }

    /** "GROUPS BEHIND g: g and 1, and so on, round, without g." */
    private static void groupsBehindRound() {
        SpreadGroups x = Due.told("volume 4 2 2 0 0 1;dir 0 0;dir 0 1;");
        due.is("a directory in the third group", x.find(0, 1), 4);
        int[] groups = {2, 3, 3, 0, 1};
        int[] inodes = {5, 6, 7, 1, 3};
        for (int name = 0; name < 5; name++) {
            due.is("where file " + name + " is", x.where(4, 2), groups[name]);
            due.is("file " + name, x.make(4, name, 2), inodes[name]);
        }
        due.is("where one more is", x.where(4, 2), NONE);
        due.refused("one more", x, () -> x.make(4, 5, 2), FULL);
    }

    /** With one GROUP there is none behind it. */
    private static void oneGroup() {
        SpreadGroups x = Due.told("volume 1 2 3 0 0 1;");
        due.is("where", x.where(0, 1), 0);
        due.is("a directory", x.make(0, 0, 1), 1);
        due.is("where", x.where(1, 2), 0);
        due.is("a file", x.make(1, 0, 2), 2);
        due.is("where", x.where(1, 2), NONE);
        due.is("where", x.where(1, 1), NONE);
        due.is("all there is", x.grow(2, 6), 6);
        due.are("its block, its tail", new int[] {x.block(2, 0), x.inode(2, 5)}, 1, 2);
        due.refused("no more", x, () -> x.grow(2, 1), FULL);
    }

    /** "whose such INODES times G are at least those of all GROUPS, that with the fewest DIRECTORIES, of like ones the first" */
    private static void groupForADirectory() {
        SpreadGroups x = Due.told("volume 2 4 4 0 0 4;");
        // Nothing 3 4: 6 is one below 7.
        due.is("one below", x.where(0, 1), 1);
        x.make(0, 0, 1);
        // Nothing 3 3, DIRECTORIES 1 1: 6 is at least 6.
        due.is("just as many, the first of like ones", x.where(0, 1), 0);
        x.make(0, 1, 1);
        // Nothing 2 3: 4 is below 5.
        due.is("below again", x.where(0, 1), 1);
        x.make(0, 2, 1);
        x.make(0, 3, 2);
        // Nothing 1 2, DIRECTORIES 2 2: the first is below, though of like ones the first.
        due.is("of like ones only those that fit", x.where(0, 1), 1);
        x.make(4, 4, 2);
        // Nothing 1 1, DIRECTORIES 2 2.
        due.is("the first of like ones", x.where(4, 1), 0);
        x.make(0, 5, 2);
        // Nothing 0 1: none in the first.
        due.is("where one is", x.where(0, 1), 1);
        x.make(0, 6, 2);
        due.is("none is nothing", x.where(0, 1), NONE);
    }

    /** Fewest DIRECTORIES goes by number, wherever the PARENT is; a GROUP without one that is nothing never fits. */
    private static void groupForADirectoryByTheLeastThatFits() {
        SpreadGroups x = Due.told("volume 3 4 2 0 0 4;dir 0 0;dir 0 1;");
        // Nothing 1 1 1, DIRECTORIES 1 1 1.
        due.is("like ones", x.where(4, 1), 0);
        x.make(0, 2, 1);
        // Nothing 0 1 1, DIRECTORIES 2 1 1.
        due.is("fewer", x.where(0, 1), 1);
        due.is("wherever the parent is", x.where(4, 1), 1);
        x.make(2, 3, 1);
        due.is("the last", x.where(0, 1), 2);
        due.is("there", x.make(0, 4, 1), 5);
        due.is("none", x.where(0, 1), NONE);
        due.is("a directory goes", x.remove(2 + 1), 1);
        due.is("its place is nothing", x.where(0, 1), 1);
    }

    /** "For a FILE: that of its PARENT, if an INODE is nothing there, else the first of GROUPS BEHIND it where one is." */
    private static void groupForAFile() {
        SpreadGroups x = Due.told("volume 2 4 2 0 0 4;dir 0 0;");
        due.is("its directory", x.find(0, 0), 2);
        due.is("the parent's", x.where(2, 2), 1);
        due.is("of the root", x.where(0, 2), 0);
        due.is("the last there", x.make(2, 0, 2), 3);
        due.is("round to the first", x.where(2, 2), 0);
        due.is("there", x.make(2, 1, 2), 1);
        due.is("none", x.where(2, 2), NONE);
        due.is("none for the root", x.where(0, 2), NONE);
    }

    /** "The INODE is the first there." */
    private static void firstInodeThere() {
        SpreadGroups x = Due.told("volume 1 4 6 0 0 4;file 0 0 0;file 0 1 0;file 0 2 0;file 0 3 0;");
        x.remove(3);
        x.remove(1);
        due.is("the first", x.make(0, 9, 2), 1);
        due.is("then the next", x.make(0, 8, 1), 3);
        due.is("then the last", x.make(0, 7, 2), 5);
        due.is("then none", x.make(0, 6, 2), FULL);
    }

    /** "in g the first FREE one from p on" */
    private static void blockFromItsPlaceOn() {
        SpreadGroups x = Due.told("volume 1 8 4 1 0 8;file 0 0 4;file 0 1 4;");
        // 1 and 2; INODE 1's next is near PLACE 3, which is FREE.
        due.is("grow", x.grow(1, 4), 8);
        due.are("the place itself", Due.blocksOf(x, 1), 1, 3);
        // INODE 2's next is near PLACE 4, then 6; then 0, where the ROOT is: 1 to 4 are not FREE, 5 is.
        due.is("grow", x.grow(2, 12), 16);
        due.are("places on", Due.blocksOf(x, 2), 2, 4, 6, 5);
        due.is("the last place", x.grow(1, 8), FULL);
        due.is("the last place", x.grow(1, 4), 12);
        // Near PLACE 5, then 6: 7.
        due.are("the last place", Due.blocksOf(x, 1), 1, 3, 7);
    }

    /** "in g the first FREE one from p on, round" */
    private static void blockRound() {
        SpreadGroups x = Due.told("volume 1 4 4 0 0 8;file 0 0 4;file 0 1 4;file 0 2 4;");
        x.remove(2);
        // From PLACE 0 round: 0 and 1 are not FREE, 2 is.
        due.is("grow", x.grow(3, 4), 8);
        due.are("just ahead of it", Due.blocksOf(x, 3), 3, 2);
        SpreadGroups y = Due.told("volume 1 8 4 0 0 8;file 0 0 4;file 0 1 12;file 0 2 8;");
        // INODE 1: 1; 2: 2 3 4; 3: 5 6
        y.remove(2);
        due.is("grow", y.grow(3, 8), 16);
        // 7, then round: 0 and 1 are not FREE, 2 is, not 3 or 4.
        due.are("round to the first that is free", Due.blocksOf(y, 3), 5, 6, 7, 2);
        SpreadGroups z = Due.told("volume 1 8 4 2 0 8;file 0 0 24;file 0 1 4;");
        // 1 4 7, then 10 modulo 8: 2 5, then 0 on: 3; INODE 2: 6
        due.are("by the step round", Due.blocksOf(z, 1), 1, 4, 7, 2, 5, 3);
        z.remove(1);
        due.is("grow", z.grow(2, 4), 8);
        // 6 and 3 is 9, modulo 8.
        due.are("over the end of the group", Due.blocksOf(z, 2), 6, 1);
    }

    /** Round is in g: not on into the next GROUP, whose first BLOCK is FREE all the while. */
    private static void blockRoundStaysInItsGroup() {
        SpreadGroups x = Due.told("volume 2 4 4 0 0 8;file 0 0 4;file 0 1 4;file 0 2 4;");
        x.remove(1);
        // From PLACE 3 round: 3 and 0 are not FREE, 1 is.
        due.is("grow", x.grow(2, 4), 8);
        due.are("from the last place to the first that is free", Due.blocksOf(x, 2), 2, 1);
        SpreadGroups y = Due.told("volume 3 4 2 0 0 8;file 0 0 0;file 0 1 4;file 0 2 8;");
        y.remove(2);
        y.make(0, 1, 2);
        y.grow(2, 3);
        due.is("a tail at the group's first block", y.inode(2, 5), 16);
        y.shrink(2, 3);
        y.make(0, 3, 2);
        due.is("grow", y.grow(3, 8), 16);
        due.are("to place 0 itself", Due.blocksOf(y, 3), 5, 6, 7, 4);
    }

    /** GROUPS of one BLOCK: each FILE's next one is near the GROUP of the last, round. */
    private static void blockInGroupsOfOne() {
        SpreadGroups x = Due.told("volume 4 1 2 0 0 8;file 0 0 0;file 0 1 0;file 0 2 0;file 0 3 8;file 0 4 5;");
        due.are("their inodes", new int[] {x.find(0, 3), x.find(0, 4)}, 4, 5);
        due.are("near the last block's group", Due.blocksOf(x, 4), 2, 3);
        due.are("round", Due.blocksOf(x, 5), 1);
        due.is("its tail", x.inode(5, 5), 1);
        SpreadGroups y = Due.told("volume 4 1 2 0 0 8;file 0 0 0;file 0 1 0;file 0 2 0;file 0 3 5;");
        due.are("a tail near the last block's group", new int[] {y.block(4, 0), y.inode(4, 5)}, 2, 12);
    }

    /** "if there is none, in the first of GROUPS BEHIND g with a FREE one the first" */
    private static void blockInAGroupBehind() {
        SpreadGroups x = Due.told("volume 3 2 3 0 0 8;file 0 0 4;file 0 1 8;file 0 2 4;");
        due.are("in its group", Due.blocksOf(x, 1), 1);
        due.are("in the group behind", Due.blocksOf(x, 2), 2, 3);
        due.is("its inode", x.find(0, 2), 3);
        due.are("in the group behind that", Due.blocksOf(x, 3), 4);
        due.is("grow", x.grow(1, 4), 8);
        due.are("not in one without a free block", Due.blocksOf(x, 1), 1, 5);
        due.refused("none is free", x, () -> x.grow(3, 4), FULL);
    }

    private static void blockInTheFirstGroupRound() {
        SpreadGroups x = Due.told("volume 2 2 3 0 0 8;dir 0 0;file 1 0 8;");
        due.is("its inode", x.find(3, 0), 4);
        due.are("behind the last group is the first", Due.blocksOf(x, 4), 3, 1);
    }

    /** In a GROUP BEHIND it is the first FREE one, not that from p on. */
    private static void blockOfAnotherGroupIsItsFirst() {
        SpreadGroups x = Due.told("volume 2 4 2 2 0 8;file 0 0 20;");
        // 1, then from 0: 2, from 1: 3, then near PLACE 2 none: GROUP 1 from its first; then PLACE 3.
        due.are("the first of the other", Due.blocksOf(x, 1), 1, 2, 3, 4, 7);
    }

    /** RUNS 1 to 3 of 3, 6 7 of 2, 11 of 1; INODES 4 and 5 are FILES without SIZE. */
    private static SpreadGroups threeRuns() {
        SpreadGroups x = Due.told("volume 1 4 6 0 0 8;file 0 0 3;file 0 1 2;file 0 2 3;file 0 3 0;file 0 4 0;");
        x.remove(1);
        due.map("three runs", x, 0, "xfffxxffxxxf");
        return x;
    }

    /** "of RUNS ... of n at least the shortest" */
    private static void shortestRun() {
        SpreadGroups x = threeRuns();
        due.are("runs", new int[] {x.group(0, 4), x.group(0, 5), x.group(0, 6)}, 1, 1, 1);
        x.grow(4, 1);
        due.is("one in the shortest", x.inode(4, 5), 11);
        x.grow(5, 1);
        due.is("then in the next longer, its first", x.inode(5, 5), 6);
        x = threeRuns();
        x.grow(4, 2);
        due.is("two in one of two", x.inode(4, 5), 6);
        x.grow(5, 2);
        due.is("then in that of three, its first two", x.inode(5, 5), 1);
        due.are("what is left", new int[] {x.group(0, 4), x.group(0, 5), x.group(0, 6)}, 2, 0, 0);
        x = threeRuns();
        x.grow(4, 3);
        due.is("three in one of three", x.inode(4, 5), 1);
        x.grow(5, 3);
        due.is("then in a free block", x.inode(5, 5), 12);
    }

    /** "of like ones the first" */
    private static void likeRuns() {
        for (int n = 1; n <= 3; n++) {
            int used = 4 - n;
            // Two BLOCKS with a RUN of n each; the ROOT's is filled by INODE 1.
            SpreadGroups x = Due.told("volume 1 4 6 0 0 8;file 0 0 3;file 0 1 4;file 0 2 4;file 0 3 0;file 0 4 0;");
            x.shrink(3, 4 - used);
            x.shrink(2, 4 - used);
            due.are("runs of " + n, new int[] {x.group(0, 3 + n)}, 2);
            x.grow(4, n);
            due.is("the first of like ones, " + n, x.inode(4, 5), 4 + used);
            x.grow(5, n);
            due.is("then the other, " + n, x.inode(5, 5), 8 + used);
        }
        SpreadGroups y = Due.told("volume 1 2 6 0 0 8;file 0 0 1;file 0 1 1;file 0 2 1;file 0 3 0;file 0 4 0;");
        y.remove(1);
        y.remove(3);
        due.map("two runs of one block", y, 0, "xfxfffff");
        due.are("they are two", new int[] {y.group(0, 4), y.group(0, 5)}, 2, 0);
        y.grow(4, 2);
        due.is("neither is of two", y.inode(4, 5), 4);
        y.grow(5, 1);
        due.is("the first of both", y.inode(5, 5), 1);
    }

    /** "else in the first FREE BLOCK the first n" */
    private static void runsAheadOfFreeBlocks() {
        SpreadGroups x = Due.told("volume 1 5 6 0 0 8;file 0 0 3;file 0 1 4;file 0 2 2;file 0 3 0;file 0 4 0;");
        x.remove(2);
        due.map("a free block ahead of a run", x, 0, "xxxxffffxxffffffffff");
        x.grow(4, 1);
        due.is("a run goes ahead", x.inode(4, 5), 10);
        x.grow(5, 2);
        due.is("no run of two: the first free block", x.inode(5, 5), 4);
        due.map("its first two", x, 4, "xxff");
    }

    /** "FREE FRAGMENTS one behind another in a BLOCK that is not FREE, as many as there are" */
    private static void runsEndWithTheirBlock() {
        SpreadGroups x = Due.told("volume 1 3 6 0 0 8;file 0 0 2;file 0 1 1;file 0 2 1;file 0 3 3;file 0 4 0;");
        x.remove(2);
        x.remove(3);
        due.map("two free ones over the end of a block", x, 0, "xxxffxxxffff");
        due.are("are two runs", new int[] {x.group(0, 4), x.group(0, 5)}, 2, 0);
        x.grow(5, 2);
        due.is("not one of two", x.inode(5, 5), 8);
        SpreadGroups y = Due.told("volume 2 2 6 0 0 8;file 0 0 3;file 0 1 3;");
        y.flip(8);
        due.is("a run that ends its group", y.group(0, 4), 1);
        due.is("is none of the next", y.group(1, 4), 0);
        due.is("that has its own", y.group(1, 6), 1);
        due.is("of all four none is a run", y.group(1, 1), 1);
    }

    /** "in g, then in GROUPS BEHIND g, the first where there is one of these" */
    private static void runsInGroupsBehind() {
        SpreadGroups x = Due.told("volume 2 4 4 0 0 4;dir 0 0;file 0 1 3;file 0 2 3;");
        // GROUP 1 has a RUN of 3 behind its DIRECTORY; GROUP 0 has a FREE BLOCK.
        due.is("its own group's free block first", x.inode(2, 5), 4);
        SpreadGroups y = Due.told("volume 3 1 4 0 0 1;file 0 0 3;file 0 1 3;file 0 2 2;");
        // GROUP 0 is full, of GROUP 1 one is left.
        due.is("in the group behind", y.inode(2, 5), 4);
        due.is("in the next where there is one", y.inode(3, 5), 8);
        due.is("the one that is left", y.make(0, 3, 2), 4);
        due.is("the one that is left", y.grow(4, 1), 1);
        due.is("is of its own group", y.inode(4, 5), 7);
    }

    /** A RUN that begins the next GROUP is none of this one, though it is shorter. */
    private static void runOfTheNextGroup() {
        SpreadGroups x = Due.told("volume 2 3 2 0 0 8;file 0 0 3;file 0 1 1;file 0 2 1;");
        x.remove(2);
        due.map("one is free where the second group begins", x, 12, "fxff");
        due.is("to a block and a tail", x.grow(1, 2), 5);
        due.is("the tail in its own group", x.inode(1, 5), 1);
    }

    private static void runInTheFirstGroupRound() {
        SpreadGroups x = Due.told("volume 2 1 3 0 0 1;dir 0 0;file 1 0 3;file 1 1 2;");
        due.are("in their directory's group", new int[] {x.find(3, 0), x.find(3, 1)}, 4, 5);
        due.is("the group is full then", x.group(1, 0), 0);
        due.is("behind the last group is the first", x.inode(5, 5), 1);
        SpreadGroups y = Due.told("volume 2 1 3 0 0 1;file 0 0 3;dir 0 1;");
        due.is("a directory in the second group", y.find(0, 1), 3);
        due.is("its tail", y.inode(3, 5), 4);
        // INODE 2 is of GROUP 0, whose BLOCK is full: the RUN for it is TAKEN in GROUP 1.
        due.are("files in the second", new int[] {y.make(3, 0, 2), y.make(3, 1, 2)}, 4, 5);
        due.is("a directory in the first", y.make(0, 2, 1), 2);
        due.is("its tail in the second", y.inode(2, 5), 5);
    }

    /** "What is TAKEN is not FREE." */
    private static void whatIsTakenIsNotFree() {
        SpreadGroups x = Due.told("volume 1 4 4 0 0 8;");
        due.is("a directory", x.make(0, 0, 1), 1);
        due.map("by make", x, 0, "xxffffffffffffff");
        due.is("a file", x.make(0, 1, 2), 2);
        due.map("by make of a file", x, 0, "xxffffffffffffff");
        x.grow(2, 6);
        due.map("by grow", x, 0, "xxxxxxxxffffffff");
        x.grow(2, 1);
        due.map("by a tail that moves", x, 0, "xxffxxxxxxxfffff");
        x.grow(2, 1);
        due.map("by a tail that is extended", x, 0, "xxffxxxxxxxxffff");
    }

    /** "k is 0: near the GROUP of its INODE, PLACE 0" */
    private static void firstBlockOfAFile() {
        SpreadGroups x = Due.told("volume 2 4 4 1 0 1;dir 0 0;file 0 1 4;file 1 2 4;file 0 3 4;");
        // 0 is a multiple of LIMIT too, but the first BLOCK is not led on; nor is it laid a STEP behind.
        due.are("of the root's group", Due.blocksOf(x, 1), 1);
        due.are("of the second group", Due.blocksOf(x, 5), 5);
        due.are("the next free one", Due.blocksOf(x, 2), 2);
        due.is("shrunk to a tail", x.shrink(1, 1), 3);
        due.is("to nothing", x.shrink(1, 3), 0);
        due.is("grown again", x.grow(1, 4), 4);
        due.are("the first again", Due.blocksOf(x, 1), 1);
    }

    /** "k is a multiple of LIMIT" */
    private static void ledOnAtMultiplesOfLimit() {
        SpreadGroups x = Due.told("volume 2 8 2 0 0 3;file 0 0 36;");
        // k 3: FREE 4 8: GROUP 1. k 6: FREE 4 5: 8 is below 9, so GROUP 1 itself.
        due.are("at 3 and 6", Due.blocksOf(x, 1), 1, 2, 3, 8, 9, 10, 11, 12, 13);
        due.are("pairs", new int[] {x.inode(1, 6), x.inode(1, 7)}, 6, 6);
        for (int limit = 1; limit <= 7; limit++) {
            SpreadGroups y = Due.told("volume 2 8 2 0 0 " + limit + ";file 0 0 " + 4 * limit + ";");
            due.is("the last ahead, limit " + limit, y.block(1, limit - 1), limit);
            y.grow(1, 4);
            due.is("the first that is led on, limit " + limit, y.block(1, limit), 8);
        }
    }

    private static void ledOnAtLimitEight() {
        SpreadGroups x = Due.told("volume 3 8 2 0 0 8;file 0 0 40;");
        // k 7: PLACE 0 on, none in GROUP 0: 8. k 8: led on to GROUP 2. k 9: behind it.
        due.are("at 8", Due.blocksOf(x, 1), 1, 2, 3, 4, 5, 6, 7, 8, 16, 17);
        due.are("pairs", new int[] {x.inode(1, 6), x.inode(1, 7)}, 8, 7);
    }

    /** "whose FREE BLOCKS times G are at least those of all GROUPS" */
    private static void ledOnIfAtLeast() {
        SpreadGroups x = Due.told("volume 2 4 2 0 0 1;file 0 0 28;");
        // FREE when k is TAKEN: 2 4: GROUP 1. 2 3: 4 is one below 5, so itself. 2 2: just as many. 1 2, 1 1, 0 1.
        due.are("just as many, one below", Due.blocksOf(x, 1), 1, 4, 5, 2, 6, 3, 7);
        due.is("none is left", x.rule(7), 0);
    }

    /** "near the first of GROUPS BEHIND that of BLOCK k less 1, then that itself" */
    private static void ledOnRoundFourGroups() {
        SpreadGroups x = Due.told("volume 4 2 2 0 0 1;file 0 0 28;");
        // FREE 0 2 2 2, 0 1 2 2, 0 1 1 2, 0 1 1 1: round past GROUP 0, that has none.
        due.are("round", Due.blocksOf(x, 1), 1, 2, 4, 6, 3, 5, 7);
        SpreadGroups y = Due.told("volume 3 3 4 0 0 2;dir 0 0;dir 0 1;file 2 2 20;");
        due.is("its inode", y.find(y.find(0, 1), 2), 9);
        // FREE 2 2 2: 7 8, FREE 2 2 0: led on round to GROUP 0: 1 2, FREE 0 2 0: GROUP 1.
        due.are("from the last to the first", Due.blocksOf(y, 9), 7, 8, 1, 2, 4);
    }

    /** "PLACE 0" */
    private static void ledOnFromPlaceNought() {
        SpreadGroups x = Due.told("volume 1 8 2 3 0 2;file 0 0 24;");
        // 1 5, led on to itself from PLACE 0: 2 6, 3 7
        due.are("in the same group", Due.blocksOf(x, 1), 1, 5, 2, 6, 3, 7);
        SpreadGroups y = Due.told("volume 2 8 2 3 0 2;file 0 0 16;");
        due.are("in another group", Due.blocksOf(y, 1), 1, 5, 8, 12);
    }

    /** Led on where no BLOCK is FREE: there is none to be TAKEN. */
    private static void ledOnWithoutAFreeBlock() {
        SpreadGroups x = Due.told("volume 2 2 4 0 0 1;file 0 0 4;file 0 1 8;file 0 2 0;");
        // BLOCKS 1, 2 3; of the last one three are FREE then, and three behind the ROOT's: ROOM is 6.
        due.is("shrink", x.shrink(2, 3), 5);
        due.are("their blocks", new int[] {x.block(1, 0), x.block(2, 0), x.inode(2, 5)}, 1, 2, 12);
        due.map("the map", x, 0, "xfffxxxxxxxxxfff");
        due.refused("a block that is led on", x, () -> x.grow(1, 4), FULL);
        due.refused("a first block", x, () -> x.grow(3, 4), FULL);
        due.is("a tail is there", x.grow(3, 3), 3);
    }

    /** "Else near that of BLOCK k less 1, its PLACE and 1 and STEP, modulo B." */
    private static void stepModuloBlocks() {
        int[][] blocks = {{8, 9, 10, 11}, {8, 10, 9, 11}, {8, 11, 10, 9}, {8, 9, 10, 11}};
        for (int step = 0; step <= 3; step++) {
            // The second GROUP is all FREE: its one INODE's BLOCKS begin at PLACE 0. STEP 3 wants the same PLACE again.
            SpreadGroups x = Due.told("volume 3 4 1 " + step + " 0 4;file 0 0 0;file 0 1 16;");
            due.is("its inode", x.find(0, 1), 2);
            due.are("step " + step, Due.blocksOf(x, 2), blocks[step]);
        }
    }

    /** "A TAIL: near the GROUP of the last BLOCK, without BLOCKS of the INODE." */
    private static void tailNearTheLastBlock() {
        SpreadGroups x = Due.told("volume 2 4 2 0 0 1;file 0 0 9;");
        due.are("blocks", Due.blocksOf(x, 1), 1, 4);
        due.is("the tail by the last of them", x.inode(1, 5), 20);
        due.is("shrunk", x.shrink(1, 5), 4);
        due.is("grown by a tail", x.grow(1, 1), 5);
        due.is("by the only block", x.inode(1, 5), 1);
        SpreadGroups y = Due.told("volume 2 4 2 0 0 1;dir 0 0;file 1 1 1;file 0 2 1;");
        due.is("without blocks by its inode", y.inode(3, 5), 17);
        due.is("without blocks by its inode", y.inode(1, 5), 1);
        due.is("it moves", y.grow(1, 3), 4);
        due.is("and shrinks to a tail of its block", y.shrink(1, 3), 1);
        due.is("there", y.inode(1, 5), 4);
    }
}
