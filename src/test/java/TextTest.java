/** Promises 1 to 5: a new object, feed, end, text, fault. */
public final class TextTest {
    private static final Due due = new Due("TextTest");

    public static void main(String[] args) {
        newObject();
        feeding();
        ending();
        taken();
        faults();
        whatFaultsLeave();
        whatTakenTextsLeave();
        due.end();
    }

    private static void newObject() {
        SpreadGroups x = new SpreadGroups();
        int[] rules = {2, 4, 4, 0, 0, 4, 31, 7, 1, 0, 1, 0, 0, 0, 0};
        for (int what = 0; what < rules.length; what++) {
            due.is("new: rule " + what, x.rule(what), rules[what]);
        }
        for (int f = 0; f < 32; f++) {
            due.is("new: fragment " + f, x.fragment(f, 0), f == 0 ? 0 : 1);
            due.is("new: who has fragment " + f, x.fragment(f, 1), f == 0 ? 0 : SpreadGroups.NONE);
        }
        for (int i = 0; i < 8; i++) {
            due.is("new: inode " + i, x.inode(i, 0), i == 0 ? 1 : 0);
        }
        due.is("new: free blocks", x.group(0, 1) * 10 + x.group(1, 1), 34);
        due.is("new: runs", x.group(0, 6) * 10 + x.group(1, 6), 10);
        due.is("new: fault", x.fault(), 0);
        due.is("new: images", x.count(0), 0);
        due.is("new: bytes", x.count(1), 0);
        due.is("new: check", x.check(2), SpreadGroups.NONE);
    }

    private static void feeding() {
        SpreadGroups x = new SpreadGroups();
        due.is("feed -1", x.feed(-1), SpreadGroups.BAD);
        due.is("feed 128", x.feed(128), SpreadGroups.BAD);
        due.is("feed least int", x.feed(Integer.MIN_VALUE), SpreadGroups.BAD);
        due.is("feed 0", x.feed(0), 1);
        due.is("feed 127", x.feed(127), 2);
        for (int n = 3; n <= 200; n++) {
            due.is("feed byte " + n, x.feed(32), n);
        }
        due.is("feed beyond 200", x.feed(32), SpreadGroups.FULL);
        due.is("feed no byte beyond 200", x.feed(128), SpreadGroups.BAD);
        due.is("bytes", x.count(1), 200);
    }

    private static void ending() {
        SpreadGroups x = new SpreadGroups();
        due.is("end of none", x.end(0), 0);
        due.is("end above none", x.end(1), SpreadGroups.BAD);
        due.is("end below 0", x.end(-1), SpreadGroups.BAD);
        Due.feed(x, "volume 1 2 3 0 0 1;??");
        due.is("end above", x.end(22), SpreadGroups.BAD);
        due.is("end at all", x.end(21), 21);
        due.is("end", x.end(19), 21);
        due.is("bytes behind end", x.count(1), 19);
        due.is("end above what is left", x.end(20), SpreadGroups.BAD);
        due.is("text behind end", x.text(), 1);
        due.is("its blocks", x.rule(1), 2);
    }

    private static void taken() {
        String[] texts = {
            "volume 1 1 1 0 0 1;", "  volume  1  1  1  0  0  1  ;  ", "volume1 1 1 0 0 1;", "volume 4 8 6 3 99 8;",
            "volume 01 01 01 00 00 01;", "volume 2 4 4 0 0 4;file 0 0 0;", "volume 2 4 4 0 0 4;dir0 9;file1 9 24;",
            "volume 2 4 4 0 0 4 ; dir 0 1 ; dir 1 1 ; dir 2 1 ; file 3 1 1 ;", "volume 2 8 4 0 0 4;file 0 0 40;",
        };
        int[] answers = {1, 1, 1, 1, 1, 2, 3, 5, 2};
        for (int t = 0; t < texts.length; t++) {
            SpreadGroups x = new SpreadGroups();
            due.is(texts[t], Due.tell(x, texts[t]), answers[t]);
            due.is(texts[t] + " fault", x.fault(), 0);
            due.is(texts[t] + " bytes", x.count(1), 0);
        }
        SpreadGroups x = Due.told("volume 3 5 6 2 7 8;");
        int[] rules = {3, 5, 6, 2, 7, 8, 59, 14, 1, 0, 1};
        for (int what = 0; what < rules.length; what++) {
            due.is("told: rule " + what, x.rule(what), rules[what]);
        }
        x = Due.told("volume 2 4 4 0 0 4;dir 0 1;dir 1 2;dir 1 3;file 3 4 5;file 0 4 0;");
        int first = x.find(0, 1);
        due.is("the second lies in the first", x.inode(x.find(first, 2), 0), 1);
        due.is("a file in the third", x.inode(x.find(x.find(first, 3), 4), 3), 5);
        due.is("a file of nothing", x.inode(x.find(0, 4), 3), 0);
    }

    /** Each text has a ^ where its fault is. */
    private static void faults() {
        String v = "volume 1 1 1 0 0 1;";
        String w = "volume 2 4 4 0 0 4;";
        fault(1, "^?");
        fault(1, "^Volume 1 1 1 0 0 1;");
        fault(1, "volume ^123 1 1 0 0 1;");
        fault(1, "volume 1 1 1 0 ^100 1;");
        fault(1, "volume 1 1 1 0 0 1^.");
        fault(1, "volume 1^.1");
        fault(1, "volume 1 1 1 0 0 1 ^000");
        fault(1, v + "^\t");
        fault(1, v + "^\n");
        fault(1, v + "^\0");
        fault(1, v + "dir 0 ^000;");
        fault(1, v + "^{");
        fault(1, v + "^`");
        fault(1, v + "^/");
        fault(1, v + "^:");
        fault(1, v + "^555555555555555555555555555555555555555");
        fault(2, "^");
        fault(2, "   ^");
        fault(2, "^dir 0 1;");
        fault(2, "^volumes 1 1 1 0 0 1;");
        fault(2, "^volum 1 1 1 0 0 1;");
        fault(2, " ^volumedir");
        fault(2, "^xolume 1 1 1 0 0 1;");
        fault(2, "^volumez 1 1 1 0 0 1;");
        fault(2, "^avolume 1 1 1 0 0 1;");
        fault(2, "volume 1^");
        fault(2, v + "^z");
        fault(2, v + "^a");
        fault(2, "^;");
        fault(2, "^7");
        fault(2, "volume1^x");
        fault(2, "volume^");
        fault(2, "volume ^;");
        fault(2, "volume ^volume");
        fault(2, "volume 1 1 1 0 0 1^");
        fault(2, "volume 1 1 1 0 0 1  ^");
        fault(2, "volume 1 1 1 0 0^;");
        fault(2, "volume 1 1 1 0 0 1 ^1;");
        fault(2, v + "^;");
        fault(2, v + "^" + v);
        fault(2, v + "^dirs 0 1;");
        fault(2, v + "^fil 0 1 1;");
        fault(2, v + "^files 0 1 1;");
        fault(2, v + "^0");
        fault(2, v + "dir^");
        fault(2, w + "dir 0^;");
        fault(2, w + "dir 0 0 ^0;");
        fault(2, w + "dir 0 0^");
        fault(2, w + "file 0 0^;");
        fault(2, w + "file 0 0 0 ^0;");
        fault(2, w + "file 0 0 0 ^");
        fault(2, w + "file 0 0 ^file");
        fault(3, "volume ^0");
        fault(3, "volume ^5 ?");
        fault(3, "volume 1 ^0");
        fault(3, "volume 1 ^9");
        fault(3, "volume 1 1 ^0");
        fault(3, "volume 1 1 ^7");
        fault(3, "volume 1 1 1 ^4");
        fault(3, "volume 1 1 1 0 0 ^0;");
        fault(3, "volume 1 1 1 0 0 ^9;");
        fault(3, w + "dir 0 ^10;");
        fault(3, w + "file 0 ^10 1;");
        fault(3, w + "file 0 1 ^41;");
        fault(3, w + "dir ^1 0;");
        fault(3, w + "dir 0 0;dir ^2 0;");
        fault(3, w + "file 0 0 0;file ^1 0 0;");
        fault(4, w + "dir 0 3;file 0 3 0^;");
        fault(4, w + "dir 0 3;dir 0 3 ^; ?");
        fault(4, w + "dir 0 3;file 1 3 0;dir 1 3^;");
        fault(4, "volume 1 1 2 0 0 1;file 0 0 0;file 0 0 40^;");
        fault(5, v + "file 0 0 0^;");
        fault(5, v + "dir 0 0  ^;");
        fault(5, "volume 1 1 2 0 3 1;dir 0 0^;");
        fault(5, "volume 1 1 2 0 2 1;file 0 0 2^; ?");
        fault(5, "volume 1 1 2 0 0 1;file 0 0 4^;");
        fault(5, "volume 1 2 3 0 0 1;file 0 0 1;file 0 1 7^;");
        fault(5, "volume 1 2 3 0 0 1;file 0 0 5;file 0 1 3^;");
        fault(5, "volume 1 2 4 0 0 1;file 0 0 1;file 0 1 3;file 0 2 3^;");
    }

    private static void fault(int which, String marked) {
        due.fault(which, marked);
    }

    private static void whatFaultsLeave() {
        SpreadGroups x = Due.told("volume 2 4 4 1 2 3;dir 0 1;file 1 2 9;file 0 3 3;");
        x.grow(x.find(0, 3), 1);
        x.keep(1);
        x.flip(20);
        x.flip(0);
        String before = Due.allOf(x);
        due.is("a text with a fault", Due.tell(x, "volume 1 1 3 0 0 1;dir 0 0;dir 0 0;"), -44);
        due.is("its fault", x.fault(), 4);
        due.is("all else stays", Due.allOf(x).equals(before.substring(0, before.length() - 1) + "4") ? 1 : 0, 1);
        due.is("text of nothing", x.text(), -10);
        due.is("its fault", x.fault(), 2);
    }

    private static void whatTakenTextsLeave() {
        SpreadGroups x = new SpreadGroups();
        int i = x.make(0, 5, 2);
        x.grow(i, 1);
        x.grow(i, 1);
        x.make(0, 6, 1);
        x.grow(i, 2);
        x.keep(0);
        x.keep(1);
        x.flip(9);
        due.is("extended", x.rule(13), 1);
        due.is("moved", x.rule(14), 1);
        due.is("text", Due.tell(x, "volume 2 4 4 0 0 4;"), 1);
        due.is("as a new one", Due.allOf(x).equals(Due.allOf(new SpreadGroups())) ? 1 : 0, 1);
        due.is("images are gone", x.back(0), SpreadGroups.STATE);
        due.is("images are gone", x.back(1), SpreadGroups.STATE);
        due.is("a fault", Due.tell(x, "?"), -10);
        due.is("a text behind a fault", Due.tell(x, "volume 1 1 1 0 0 1;"), 1);
        due.is("the latest has none", x.fault(), 0);
        due.is("a text with a dir", Due.tell(x, "volume 2 4 4 0 0 4;dir 0 0;"), 2);
        due.is("dirs are those of the text", Due.tell(x, "volume 2 4 4 0 0 4;dir 1 0;"), -33);
    }
}
