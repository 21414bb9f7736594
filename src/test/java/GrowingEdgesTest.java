import java.util.ArrayList;
import java.util.List;

/**
 * The edges that the document names in 2 for a FILE that GROWS or SHRINKS, PAIRS, GATHER, and promises 15, 16, 19.
 * A method's comment has the sentence that it would see broken; one without goes on with the sentence ahead.
 */
public final class GrowingEdgesTest {
    private static final int BAD = SpreadGroups.BAD, STATE = SpreadGroups.STATE;
    private static final int FULL = SpreadGroups.FULL, NONE = SpreadGroups.NONE;
    private static final int LEAST = Integer.MIN_VALUE, MOST = Integer.MAX_VALUE;
    private static final Due due = new Due("GrowingEdgesTest");

    public static void main(String[] args) {
        byHowMuch();
        aboveForty();
        downToTheReserve();
        firstTails();
        extendedTails();
        tailsInTheWay();
        tailsAtTheEndOfABlock();
        runIsTakenAheadOfTheOldTail();
        tailThatBeginsItsBlock();
        notAllElseIsFree();
        tailThatDoesNotBegin();
        blockIsTakenAheadOfTheOldTail();
        oldTailIsFreeForOtherBlocks();
        extendedWhereItIsLedOn();
        fullInTheMidst();
        shrinkByHowMuch();
        shrinkToEachSize();
        pairs();
        followRoundModuloBlocks();
        gatherWhat();
        gatherToTheLastPlace();
        gatherFirstPlace();
        gatherOwnGroupFirst();
        gatherRound();
        gatherAllOfAGroup();
        gatherNotOverItsOwn();
        gatherBesideTheReserve();
        due.end();
    }

    private static void counts(String call, SpreadGroups x, int extended, int moved) {
        due.are(call + ": extended, moved", new int[] {x.rule(13), x.rule(14)}, extended, moved);
    }

    /** "A FILE GROWS by n (1 to 40): its SIZE. BAD; STATE; FULL" */
    private static void byHowMuch() {
        SpreadGroups x = Due.told("volume 2 8 4 0 0 8;file 0 0 0;dir 0 1;");
        int[] bad = {0, -1, 41, LEAST, MOST};
        for (int n : bad) {
            due.refused("grow by " + n, x, () -> x.grow(1, n), BAD);
        }
        int[] noFiles = {0, 2, 4, 7, 8, -1, LEAST, MOST};
        for (int i : noFiles) {
            due.refused("grow of " + i, x, () -> x.grow(i, 1), BAD);
        }
        due.is("by 1", x.grow(1, 1), 1);
        due.is("shrink", x.shrink(1, 1), 0);
        due.is("by 40", x.grow(1, 40), 40);
        x.flip(63);
        due.refused("spoilt goes ahead of full", x, () -> x.grow(1, 1), STATE);
        due.refused("bad goes ahead of spoilt", x, () -> x.grow(1, 41), BAD);
        due.refused("bad goes ahead of spoilt", x, () -> x.grow(0, 1), BAD);
    }

    /** "FULL: above 40" */
    private static void aboveForty() {
        for (int size = 0; size <= 40; size++) {
            SpreadGroups x = Due.told("volume 4 8 2 0 0 8;file 0 0 " + size + ";");
            int more = 40 - size;
            due.is("above 40 from " + size, x.grow(1, more + 1), more == 40 ? BAD : FULL);
            if (more > 0) {
                due.is("to 40 from " + size, x.grow(1, more), 40);
            }
            due.is("size from " + size, x.inode(1, 3), 40);
        }
    }

    /** "FULL, if ROOM less n is below RESERVE" */
    private static void downToTheReserve() {
        SpreadGroups x = Due.told("volume 1 4 4 0 5 8;file 0 0 0;file 0 1 0;");
        due.is("room", x.rule(6), 15);
        due.refused("below it", x, () -> x.grow(1, 11), FULL);
        due.is("down to it", x.grow(1, 10), 10);
        due.is("room", x.rule(6), 5);
        due.refused("one more, though the tail could be extended", x, () -> x.grow(1, 1), FULL);
        due.refused("of another, too", x, () -> x.grow(2, 1), FULL);
        due.refused("a directory", x, () -> x.make(0, 2, 1), FULL);
        due.is("a file of nothing", x.make(0, 2, 2), 3);
        due.is("shrink", x.shrink(1, 1), 9);
        due.is("a directory then", x.make(0, 3, 1), FULL);
        due.is("one goes", x.remove(3), 0);
        due.is("a directory then", x.make(0, 3, 1), 3);
        due.is("room", x.rule(6), 5);
        SpreadGroups y = Due.told("volume 1 1 2 0 0 8;file 0 0 0;");
        due.refused("below 0", y, () -> y.grow(1, 4), FULL);
        due.is("down to 0", y.grow(1, 3), 3);
        due.is("room", y.rule(6), 0);
        SpreadGroups z = Due.told("volume 1 1 2 0 99 8;file 0 0 0;");
        due.refused("a reserve above all there is", z, () -> z.grow(1, 1), FULL);
    }

    /** "as many BLOCKS as ahead: t is 0: a RUN of u is TAKEN" */
    private static void firstTails() {
        for (int blocks = 0; blocks <= 2; blocks++) {
            for (int u = 1; u <= 3; u++) {
                SpreadGroups x = Due.told("volume 1 4 2 0 0 8;file 0 0 " + 4 * blocks + ";");
                due.is("a tail of " + u, x.grow(1, u), 4 * blocks + u);
                due.are("its blocks, its tail", new int[] {x.inode(1, 4), x.inode(1, 5)}, blocks, 1);
                counts("a first tail", x, 0, 0);
            }
        }
    }

    /** "if the u less t FRAGMENTS behind the TAIL in its BLOCK are FREE, they are TAKEN (EXTENDED)" */
    private static void extendedTails() {
        for (int t = 1; t <= 2; t++) {
            for (int u = t + 1; u <= 3; u++) {
                // The TAIL is behind the ROOT's, so that 3 reach the end of the BLOCK; and, by a FILE of 3 there, in BLOCK 1.
                for (int other = 0; other <= 3; other += 3) {
                    SpreadGroups x = Due.told("volume 1 4 3 0 0 8;file 0 0 " + other + ";file 0 1 " + t + ";");
                    due.is("from " + t + " to " + u, x.grow(2, u - t), u);
                    due.is("where it was", x.inode(2, 5), other == 0 ? 1 : 4);
                    due.map("what is taken", x, other == 0 ? 1 : 4, "xxxf".substring(3 - u, 3));
                    due.is("no more than that", x.rule(6), 15 - other - u);
                    counts("from " + t + " to " + u, x, 1, 0);
                }
            }
        }
    }

    /** "else a RUN of u is TAKEN, then the old TAIL is FREE (MOVED)" */
    private static void tailsInTheWay() {
        SpreadGroups x = Due.told("volume 1 4 5 0 0 8;file 0 0 1;file 0 1 1;file 0 2 1;");
        x.remove(2);
        due.map("the second behind it is not free", x, 0, "xxfxffff");
        x.grow(1, 2);
        due.is("to 3: moved", x.inode(1, 5), 4);
        due.map("the old one is free", x, 0, "xffxxxxf");
        counts("to 3", x, 0, 1);
        SpreadGroups y = Due.told("volume 1 4 5 0 0 8;file 0 0 1;file 0 1 1;file 0 2 1;");
        y.remove(2);
        y.grow(1, 1);
        due.is("to 2: extended", y.inode(1, 5), 1);
        counts("to 2", y, 1, 0);
        y.grow(1, 1);
        due.is("to 3: moved", y.inode(1, 5), 4);
        due.map("both of the old one are free", y, 0, "xffxxxxf");
        counts("to 3", y, 1, 1);
    }

    private static void tailsAtTheEndOfABlock() {
        SpreadGroups x = Due.told("volume 1 3 5 0 0 8;file 0 0 2;file 0 1 1;");
        due.is("the tail ends its block", x.inode(2, 5), 3);
        due.is("the next is free", x.fragment(4, 0), 1);
        x.grow(2, 1);
        due.is("but of another block: moved", x.inode(2, 5), 4);
        counts("at the end", x, 0, 1);
        SpreadGroups y = Due.told("volume 1 3 5 0 0 8;file 0 0 1;file 0 1 1;");
        y.grow(2, 2);
        due.is("one ahead of the end, two more", y.inode(2, 5), 4);
        counts("one ahead of the end", y, 0, 1);
        SpreadGroups z = Due.told("volume 1 3 5 0 0 8;file 0 0 1;file 0 1 1;");
        z.grow(2, 1);
        due.is("one ahead of the end, one more", z.inode(2, 5), 2);
        counts("one ahead of the end", z, 1, 0);
    }

    /** A RUN that is there only when the old TAIL is FREE is not there. */
    private static void runIsTakenAheadOfTheOldTail() {
        SpreadGroups x = Due.told("volume 1 1 5 0 0 8;file 0 0 1;file 0 1 1;file 0 2 1;");
        x.remove(1);
        due.map("one ahead of it is free", x, 0, "xfxx");
        due.refused("with it there would be a run of two", x, () -> x.grow(2, 1), FULL);
        SpreadGroups y = Due.told("volume 1 2 5 0 0 8;file 0 0 1;file 0 1 1;file 0 2 1;");
        y.remove(1);
        due.is("in another block", y.grow(2, 1), 2);
        due.map("not there", y, 0, "xffxxxff");
    }

    /** "More BLOCKS: t above 0: if the TAIL begins its BLOCK, and all else there is FREE, that is the next BLOCK (EXTENDED)" */
    private static void tailThatBeginsItsBlock() {
        for (int t = 1; t <= 3; t++) {
            for (int size = 4; size <= 9; size++) {
                SpreadGroups x = Due.told("volume 1 4 3 0 0 8;file 0 0 3;file 0 1 " + t + ";");
                due.is("the tail begins a block", x.inode(2, 5), 4);
                due.is("from " + t + " to " + size, x.grow(2, size - t), size);
                due.is("its block", x.block(2, 0), 1);
                due.is("the next", x.block(2, 1), size < 8 ? NONE : 2);
                due.is("its tail", x.inode(2, 5), size % 4 == 0 ? NONE : size < 8 ? 8 : 12);
                counts("from " + t + " to " + size, x, 1, 0);
                due.is("room", x.rule(6), 12 - size);
                due.is("check", x.check(2), NONE);
            }
        }
    }

    private static void notAllElseIsFree() {
        for (int other = 5; other <= 7; other++) {
            SpreadGroups x = Due.told("volume 1 4 6 0 0 8;file 0 0 3;file 0 1 1;file 0 2 1;file 0 3 1;file 0 4 1;");
            for (int f = 5; f <= 7; f++) {
                if (f != other) {
                    x.remove(f - 2);
                }
            }
            due.is("who is in the way", x.fragment(other, 1), other - 2);
            due.is("room beside it", x.group(0, 0), 10);
            due.is("to a block", x.grow(2, 3), 4);
            due.is("another block", x.block(2, 0), 2);
            counts("in the way at " + other, x, 0, 1);
            due.is("the old tail is free", x.fragment(4, 0), 1);
        }
    }

    private static void tailThatDoesNotBegin() {
        SpreadGroups x = Due.told("volume 1 4 4 0 0 8;file 0 0 1;");
        // Behind the ROOT's, all else but that is FREE.
        due.is("to a block", x.grow(1, 3), 4);
        due.is("another block", x.block(1, 0), 1);
        counts("behind the root's", x, 0, 1);
        due.map("the old tail is free", x, 0, "xfffxxxx");
        SpreadGroups y = Due.told("volume 1 4 5 0 0 8;file 0 0 3;file 0 1 1;file 0 2 1;");
        y.remove(2);
        due.map("alone in its block, but not at its beginning", y, 4, "fxff");
        due.is("to a block", y.grow(3, 3), 4);
        due.is("another block", y.block(3, 0), 2);
        counts("alone", y, 0, 1);
        due.map("its old block is free", y, 4, "ffffxxxx");
    }

    /** "else a BLOCK is TAKEN, then the old TAIL is FREE (MOVED)" */
    private static void blockIsTakenAheadOfTheOldTail() {
        SpreadGroups x = Due.told("volume 1 2 4 0 0 8;file 0 0 3;file 0 1 1;file 0 2 1;");
        x.remove(2);
        due.map("alone in the last block", x, 0, "xxxxfxff");
        due.is("room", x.rule(6), 3);
        due.refused("a block is free only when it is gone", x, () -> x.grow(3, 3), FULL);
        due.is("a tail of 3 is extended", x.grow(3, 2), 3);
        due.is("there", x.inode(3, 5), 5);
    }

    /** "then other BLOCKS, one by one, are TAKEN": the old TAIL's may be among them. */
    private static void oldTailIsFreeForOtherBlocks() {
        SpreadGroups x = Due.told("volume 1 3 4 0 0 8;file 0 0 3;file 0 1 1;file 0 2 1;");
        x.remove(2);
        due.is("room", x.rule(6), 7);
        due.is("all of it", x.grow(3, 7), 8);
        due.are("the old tail's block is the second", Due.blocksOf(x, 3), 2, 1);
        due.is("room", x.rule(6), 0);
        counts("all of it", x, 0, 1);
        SpreadGroups y = Due.told("volume 1 3 4 0 0 8;file 0 0 1;file 0 1 1;file 0 2 4;");
        // 1, 2, BLOCK 1
        due.is("to a block and a tail", y.grow(2, 5), 6);
        due.are("the old tail's is of its run", new int[] {y.block(2, 0), y.inode(2, 5)}, 2, 2);
        counts("to a block and a tail", y, 0, 1);
    }

    /** The TAIL's own BLOCK is next, whatever LIMIT and STEP would want. */
    private static void extendedWhereItIsLedOn() {
        SpreadGroups x = Due.told("volume 2 4 2 2 0 1;file 0 0 9;");
        due.are("blocks, tail", new int[] {x.block(1, 0), x.block(1, 1), x.inode(1, 5)}, 1, 4, 20);
        due.is("grow", x.grow(1, 3), 12);
        due.are("not led on", Due.blocksOf(x, 1), 1, 4, 5);
        counts("not led on", x, 1, 0);
    }

    /** "If any can not be TAKEN: FULL, and nothing changes." */
    private static void fullInTheMidst() {
        SpreadGroups x = Due.told("volume 1 3 4 0 0 8;file 0 0 4;file 0 1 4;file 0 2 2;");
        x.shrink(1, 3);
        x.shrink(2, 2);
        due.map("a tail that begins its block", x, 0, "xxxfxfffxxff");
        due.refused("extended, then no run of 3", x, () -> x.grow(1, 6), FULL);
        due.is("a run of 2", x.grow(1, 5), 6);
        due.are("is there", new int[] {x.block(1, 0), x.inode(1, 5)}, 1, 10);
        counts("once", x, 1, 0);
        SpreadGroups y = Due.told("volume 1 4 5 0 0 8;file 0 0 4;file 0 1 4;file 0 2 4;file 0 3 2;");
        y.shrink(1, 3);
        y.shrink(2, 2);
        y.shrink(3, 2);
        due.is("room", y.rule(6), 8);
        due.refused("extended, then no block", y, () -> y.grow(1, 7), FULL);
        SpreadGroups z = Due.told("volume 1 3 4 0 0 8;file 0 0 1;file 0 1 1;file 0 2 4;");
        z.shrink(3, 2);
        due.map("a tail behind others", z, 0, "xxxfxxffffff");
        due.refused("moved, then no block", z, () -> z.grow(2, 7), FULL);
        due.refused("moved, then no run of 3", z, () -> z.grow(2, 6), FULL);
        due.is("moved, then a run of 2", z.grow(2, 5), 6);
        due.are("of its old tail", new int[] {z.block(2, 0), z.inode(2, 5)}, 2, 2);
        counts("once", z, 0, 1);
        SpreadGroups w = Due.told("volume 1 3 4 0 0 8;file 0 0 3;file 0 1 2;file 0 2 2;");
        due.refused("a block, then no second", w, () -> w.grow(2, 6), FULL);
        SpreadGroups v = Due.told("volume 1 3 4 0 0 8;file 0 0 3;file 0 1 4;file 0 2 0;");
        v.shrink(2, 1);
        due.is("room", v.rule(6), 5);
        due.is("a block and a run of 1", v.grow(3, 5), 5);
        due.are("are there", new int[] {v.block(3, 0), v.inode(3, 5)}, 2, 7);
    }

    /** "A FILE SHRINKS by n (1 to its SIZE): its SIZE. BAD; STATE." */
    private static void shrinkByHowMuch() {
        SpreadGroups x = Due.told("volume 2 8 4 0 0 8;file 0 0 7;dir 0 1;file 0 2 0;");
        int[] bad = {0, -1, 8, 40, 41, LEAST, MOST};
        for (int n : bad) {
            due.refused("shrink by " + n, x, () -> x.shrink(1, n), BAD);
        }
        due.refused("shrink of nothing", x, () -> x.shrink(2, 1), BAD);
        int[] noFiles = {0, 4, 3, 7, 8, -1, LEAST, MOST};
        for (int i : noFiles) {
            due.refused("shrink of " + i, x, () -> x.shrink(i, 1), BAD);
        }
        x.flip(63);
        due.refused("spoilt", x, () -> x.shrink(1, 7), STATE);
        due.refused("bad goes ahead", x, () -> x.shrink(1, 8), BAD);
        x.flip(63);
        due.is("by 1", x.shrink(1, 1), 6);
        due.is("by its size", x.shrink(1, 6), 0);
        due.refused("by 1 more", x, () -> x.shrink(1, 1), BAD);
        counts("shrinks", x, 0, 0);
    }

    private static List<Integer> fragmentsOf(SpreadGroups x, int i) {
        List<Integer> fragments = new ArrayList<>();
        for (int b : Due.blocksOf(x, i)) {
            for (int f = 0; f < 4; f++) {
                fragments.add(4 * b + f);
            }
        }
        for (int f = 0; f < x.inode(i, 3) % 4; f++) {
            fragments.add(x.inode(i, 5) + f);
        }
        return fragments;
    }

    /** "what is left are the first BLOCKS; if the new TAIL is of the FRAGMENTS of a BLOCK, these are its first; if it is of the TAIL, the first of that; all else is FREE" */
    private static void shrinkToEachSize() {
        for (int size = 1; size <= 23; size++) {
            for (int n = 1; n <= size; n++) {
                SpreadGroups x = Due.told("volume 2 8 3 1 0 3;file 0 0 1;file 0 1 " + size + ";");
                List<Integer> before = fragmentsOf(x, 2);
                String call = "from " + size + " by " + n;
                due.is(call, x.shrink(2, n), size - n);
                due.is(call + ": what is left are the first", fragmentsOf(x, 2).equals(before.subList(0, size - n)) ? 1 : 0, 1);
                due.is(call + ": blocks", x.inode(2, 4), (size - n) / 4);
                due.is(call + ": tail", x.inode(2, 5) == NONE ? 0 : 1, (size - n) % 4 == 0 ? 0 : 1);
                for (int f = 0; f < size; f++) {
                    due.is(call + ": free " + f, x.fragment(before.get(f), 0), f < size - n ? 0 : 1);
                }
                due.is(call + ": check", x.check(2), NONE);
            }
        }
    }

    /** "A PAIR of a FILE: BLOCKS k less 1 and k, k above 0 and no multiple of LIMIT; it FOLLOWS, if both are of one GROUP" */
    private static void pairs() {
        SpreadGroups x = Due.told("volume 2 8 2 0 0 8;file 0 0 40;");
        due.are("blocks", Due.blocksOf(x, 1), 1, 2, 3, 4, 5, 6, 7, 8, 9, 10);
        // 7 and 8 are one behind the other, but of two GROUPS; 8 and 9 are no PAIR.
        due.are("pairs, those that follow", new int[] {x.inode(1, 6), x.inode(1, 7)}, 8, 7);
        for (int blocks = 0; blocks <= 7; blocks++) {
            for (int limit = 1; limit <= 8; limit++) {
                SpreadGroups y = Due.told("volume 1 8 2 0 0 " + limit + ";file 0 0 " + 4 * blocks + ";");
                int pairs = blocks == 0 ? 0 : blocks - 1 - (blocks - 1) / limit;
                due.is("pairs of " + blocks + ", limit " + limit, y.inode(1, 6), pairs);
                due.is("those that follow", y.inode(1, 7), pairs);
                due.are("of all", new int[] {y.rule(11), y.rule(12)}, pairs, pairs);
            }
        }
    }

    /** "and PLACE of k is that of k less 1 and 1 and STEP, modulo B" */
    private static void followRoundModuloBlocks() {
        SpreadGroups x = Due.told("volume 2 4 2 0 0 8;file 0 0 0;file 0 1 4;file 0 2 12;");
        x.remove(2);
        due.is("grow", x.grow(3, 4), 16);
        due.are("round the end of its group", Due.blocksOf(x, 3), 5, 6, 7, 4);
        due.are("follow", new int[] {x.inode(3, 6), x.inode(3, 7)}, 3, 3);
        SpreadGroups y = Due.told("volume 1 8 2 2 0 8;file 0 0 28;");
        due.are("step 2", Due.blocksOf(y, 1), 1, 4, 7, 2, 5, 3, 6);
        // All but 5 and 3: that would be 0.
        due.are("follow", new int[] {y.inode(1, 6), y.inode(1, 7)}, 6, 5);
        SpreadGroups z = Due.told("volume 1 8 2 1 0 8;file 0 0 8;");
        due.are("step 1", Due.blocksOf(z, 1), 1, 3);
        due.are("follow", new int[] {z.inode(1, 6), z.inode(1, 7)}, 1, 1);
    }

    /** "To GATHER a FILE: PAIRS that FOLLOW then. BAD; STATE: also less than 2 BLOCKS; FULL: there are no such." */
    private static void gatherWhat() {
        SpreadGroups x = Due.told("volume 1 8 6 0 0 8;file 0 0 8;file 0 1 7;file 0 2 0;dir 0 3;");
        int[] noFiles = {0, 4, 5, 6, -1, LEAST, MOST};
        for (int i : noFiles) {
            due.refused("gather of " + i, x, () -> x.gather(i), BAD);
        }
        due.refused("one block and a tail", x, () -> x.gather(2), STATE);
        due.refused("no block", x, () -> x.gather(3), STATE);
        x.flip(31);
        due.refused("spoilt", x, () -> x.gather(1), STATE);
        due.refused("bad goes ahead", x, () -> x.gather(0), BAD);
        x.flip(31);
        due.is("two blocks", x.gather(1), 1);
        due.are("moved", Due.blocksOf(x, 1), 5, 6);
        counts("two blocks", x, 0, 2);
        due.is("again, though it lies in a row", x.gather(1), 1);
        due.are("moved", Due.blocksOf(x, 1), 1, 2);
        counts("twice two blocks", x, 0, 4);
        due.map("the old ones are free", x, 20, "ffffffff");
        due.is("check", x.check(2), NONE);
    }

    /** "p, p and 1 and STEP, and so on, q of them, all are below B and FREE" */
    private static void gatherToTheLastPlace() {
        SpreadGroups x = Due.told("volume 1 8 5 2 0 1;file 0 0 4;file 0 1 8;file 0 2 4;");
        x.grow(2, 4);
        due.are("blocks", Due.blocksOf(x, 2), 2, 3, 5);
        x.remove(1);
        due.refused("4 is not free", x, () -> x.gather(2), FULL);
        x.remove(3);
        // FREE 1 4 6 7. By LIMIT 1 there are no PAIRS.
        due.is("to the last place", x.gather(2), 0);
        due.are("the row", Due.blocksOf(x, 2), 1, 4, 7);
        due.map("the map", x, 0, "xfffxxxxffffffffxxxxffffffffxxxx");
        counts("three", x, 0, 3);
        SpreadGroups y = Due.told("volume 2 8 2 2 0 8;file 0 0 12;");
        due.are("blocks", Due.blocksOf(y, 1), 1, 4, 7);
        // 2 5 8 are FREE, but 8 is of the next GROUP, where it is PLACE 0.
        due.is("not over the end of a group", y.gather(1), 2);
        due.are("the row", Due.blocksOf(y, 1), 8, 11, 14);
    }

    /** "by PLACE p, the first" */
    private static void gatherFirstPlace() {
        SpreadGroups x = Due.told("volume 1 8 3 0 0 8;file 0 0 4;file 0 1 11;");
        x.remove(1);
        due.map("free ones", x, 0, "xxxxffffxxxxxxxxffffffffffffffff");
        // 1 alone is no row with 2, its own: the first row is 4 5.
        due.is("gathered", x.gather(2), 1);
        due.are("the first row", Due.blocksOf(x, 2), 4, 5);
        due.is("the tail stays", x.inode(2, 5), 1);
        due.is("the size stays", x.inode(2, 3), 11);
        due.is("gathered again", x.gather(2), 1);
        due.are("the first row", Due.blocksOf(x, 2), 1, 2);
        due.map("the map", x, 0, "xxxxxxxxxxxxffffffff");
    }

    /** "in the GROUP of its INODE, then in GROUPS BEHIND it" */
    private static void gatherOwnGroupFirst() {
        SpreadGroups x = Due.told("volume 2 4 3 0 0 8;file 0 0 12;file 0 1 8;");
        due.are("all in the group behind", Due.blocksOf(x, 2), 4, 5);
        x.remove(1);
        due.is("gathered", x.gather(2), 1);
        due.are("in its own", Due.blocksOf(x, 2), 1, 2);
        SpreadGroups y = Due.told("volume 3 4 2 0 0 8;dir 0 0;file 1 1 8;");
        due.are("in the second group", Due.blocksOf(y, 3), 5, 6);
        due.is("gathered", y.gather(3), 1);
        due.are("in the group behind, not in that ahead", Due.blocksOf(y, 3), 8, 9);
        due.is("gathered again", y.gather(3), 1);
        due.are("in its own, not in that ahead", Due.blocksOf(y, 3), 5, 6);
    }

    private static void gatherRound() {
        SpreadGroups x = Due.told("volume 2 4 2 0 0 8;dir 0 0;file 1 1 8;");
        due.are("in the last group", Due.blocksOf(x, 3), 5, 6);
        due.is("gathered", x.gather(3), 1);
        due.are("behind the last is the first", Due.blocksOf(x, 3), 1, 2);
    }

    /** A row of as many as a GROUP has, and one that is longer. */
    private static void gatherAllOfAGroup() {
        SpreadGroups x = Due.told("volume 3 8 2 0 0 8;file 0 0 32;");
        due.are("blocks", Due.blocksOf(x, 1), 1, 2, 3, 4, 5, 6, 7, 8);
        due.is("all of a group", x.gather(1), 7);
        due.are("the row", Due.blocksOf(x, 1), 16, 17, 18, 19, 20, 21, 22, 23);
        counts("all of a group", x, 0, 8);
        SpreadGroups y = Due.told("volume 4 8 2 0 0 8;file 0 0 36;");
        due.refused("one more than a group has", y, () -> y.gather(1), FULL);
        SpreadGroups z = Due.told("volume 3 5 1 3 0 8;file 0 0 8;");
        due.are("from the first place to the last", Due.blocksOf(z, 1), 5, 9);
        due.is("gathered", z.gather(1), 1);
        due.are("so in the next group", Due.blocksOf(z, 1), 10, 14);
        SpreadGroups w = Due.told("volume 3 4 1 3 0 8;file 0 0 8;");
        due.refused("a step too long for a group", w, () -> w.gather(1), FULL);
    }

    /** The old BLOCKS are FREE behind it, not ahead. */
    private static void gatherNotOverItsOwn() {
        SpreadGroups x = Due.told("volume 1 4 2 0 0 8;file 0 0 8;");
        due.are("blocks", Due.blocksOf(x, 1), 1, 2);
        due.refused("2 3 would be a row", x, () -> x.gather(1), FULL);
    }

    /** RESERVE is of what GROWS and of DIRECTORIES; to GATHER needs none. */
    private static void gatherBesideTheReserve() {
        SpreadGroups x = Due.told("volume 1 8 2 0 23 8;file 0 0 8;");
        due.is("room", x.rule(6), 23);
        due.is("gathered", x.gather(1), 1);
        due.are("the row", Due.blocksOf(x, 1), 3, 4);
    }
}
