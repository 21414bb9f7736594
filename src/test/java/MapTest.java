/** Promises 21 to 26: flip, check, mend, keep, back, count. */
public final class MapTest {
    private static final int BAD = SpreadGroups.BAD, STATE = SpreadGroups.STATE, NONE = SpreadGroups.NONE;
    private static final int LEAST = Integer.MIN_VALUE, MOST = Integer.MAX_VALUE;
    private static final Due due = new Due("MapTest");

    public static void main(String[] args) {
        flipping();
        checkingAndMending();
        images();
        imagesOfSpoiltMaps();
        counts();
        due.end();
    }

    private static void flipping() {
        SpreadGroups x = Due.told("volume 1 2 2 0 0 1;file 0 0 5;");
        // ROOT 0, TAIL 1, BLOCK 1
        for (int f = 0; f < 8; f++) {
            int was = f == 2 || f == 3 ? 1 : 0;
            due.is("flip " + f, x.flip(f), was);
            due.is("fragment " + f, x.fragment(f, 0), 1 - was);
            due.is("flip back " + f, x.flip(f), 1 - was);
            due.is("fragment " + f, x.fragment(f, 0), was);
        }
        due.is("flip -1", x.flip(-1), BAD);
        due.is("flip 8", x.flip(8), BAD);
        due.is("flip least", x.flip(LEAST), BAD);
        due.is("flip most", x.flip(MOST), BAD);
        due.is("as it was", x.check(2), NONE);
        x.flip(3);
        due.is("room", x.rule(6), 1);
    }

    private static void checkingAndMending() {
        SpreadGroups x = Due.told("volume 2 4 4 0 0 4;file 0 0 6;");
        // ROOT 0, TAIL 1 2, BLOCK 1
        due.is("check 0", x.check(0), 0);
        due.is("check 1", x.check(1), 0);
        due.is("check 2", x.check(2), NONE);
        due.is("mend of nothing", x.mend(), 0);
        x.flip(31);
        due.is("not free, had by none", x.check(1), 1);
        due.is("the first", x.check(2), 31);
        x.flip(7);
        x.flip(5);
        due.is("free, had", x.check(0), 2);
        due.is("not free, had by none", x.check(1), 1);
        due.is("the first of both kinds", x.check(2), 5);
        x.flip(3);
        due.is("the first of both kinds", x.check(2), 3);
        due.is("not free, had by none", x.check(1), 2);
        due.is("check -1", x.check(-1), BAD);
        due.is("check 3", x.check(3), BAD);
        due.is("check most", x.check(MOST), BAD);
        String inodes = x.inode(1, 3) + " " + x.inode(1, 5) + " " + x.block(1, 0);
        due.is("mend", x.mend(), 4);
        due.is("as inodes have it", x.check(2), NONE);
        due.is("fragments", x.fragment(31, 0) * 1000 + x.fragment(7, 0) * 100 + x.fragment(5, 0) * 10 + x.fragment(3, 0), 1001);
        due.is("inodes stay", inodes.equals(x.inode(1, 3) + " " + x.inode(1, 5) + " " + x.block(1, 0)) ? 1 : 0, 1);
        due.is("mend again", x.mend(), 0);
        for (int f = 0; f < 32; f++) {
            x.flip(f);
        }
        due.is("all wrong", x.check(0) * 100 + x.check(1), 725);
        due.is("mend all", x.mend(), 32);
        due.is("a deed again", x.grow(1, 1), 7);
    }

    private static void images() {
        SpreadGroups x = Due.told("volume 2 4 4 1 0 4;file 0 0 6;");
        due.is("back to none", x.back(0), STATE);
        due.is("back to none", x.back(1), STATE);
        due.is("keep", x.keep(0), 0);
        String first = stateOf(x);
        x.grow(1, 1);
        x.make(0, 5, 1);
        x.grow(1, 5);
        due.is("keep the other", x.keep(1), 0);
        String second = stateOf(x);
        due.is("they differ", first.equals(second) ? 1 : 0, 0);
        x.remove(1);
        due.is("back", x.back(0), 2);
        due.is("as the first", first.equals(stateOf(x)) ? 1 : 0, 1);
        due.is("counts too", x.rule(13) + x.rule(14), 0);
        due.is("back to the other", x.back(1), 3);
        due.is("as the second", second.equals(stateOf(x)) ? 1 : 0, 1);
        due.is("counts too", x.rule(13) + x.rule(14), 2);
        due.is("an image stays", x.back(0), 2);
        due.is("keep anew", x.keep(1), 1);
        x.make(0, 6, 2);
        due.is("what is done then does not change it", x.back(1), 2);
        due.is("as the first", first.equals(stateOf(x)) ? 1 : 0, 1);
        int[] bad = {-1, 2, LEAST, MOST};
        for (int k : bad) {
            due.is("keep " + k, x.keep(k), BAD);
            due.is("back " + k, x.back(k), BAD);
        }
    }

    private static String stateOf(SpreadGroups x) {
        String all = Due.allOf(x);
        // Without how many images there are.
        return all.substring(0, all.length() - 5);
    }

    private static void imagesOfSpoiltMaps() {
        SpreadGroups x = Due.told("volume 2 4 4 1 0 4;file 0 0 6;");
        x.flip(9);
        due.is("keep", x.keep(1), 0);
        due.is("mend", x.mend(), 1);
        due.is("back", x.back(1), 2);
        due.is("the map is spoilt again", x.check(2), 9);
        due.is("a deed", x.make(0, 1, 2), STATE);
        due.is("back while spoilt", x.back(0), STATE);
    }

    private static void counts() {
        SpreadGroups x = new SpreadGroups();
        due.is("images", x.count(0), 0);
        due.is("bytes", x.count(1), 0);
        x.keep(1);
        due.is("images", x.count(0), 1);
        x.keep(1);
        due.is("images", x.count(0), 1);
        x.keep(0);
        due.is("images", x.count(0), 2);
        x.back(0);
        due.is("images", x.count(0), 2);
        x.feed(5);
        x.feed(6);
        due.is("bytes", x.count(1), 2);
        x.back(1);
        due.is("bytes are not of an image", x.count(1), 2);
        due.is("count -1", x.count(-1), BAD);
        due.is("count 2", x.count(2), BAD);
        due.is("count least", x.count(LEAST), BAD);
        x.text();
        due.is("bytes", x.count(1), 0);
        due.is("images stay by a fault", x.count(0), 2);
        Due.tell(x, "volume 2 4 4 0 0 4;");
        due.is("images are gone", x.count(0), 0);
    }
}
