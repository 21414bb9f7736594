/**
 * The edges that the document names for THE TAPE, its TOKENS, its text and its FAULTS, and promises 2 to 5.
 * A method's comment has the sentence that it would see broken; one without goes on with the sentence ahead.
 */
public final class TapeEdgesTest {
    private static final int BAD = SpreadGroups.BAD, STATE = SpreadGroups.STATE;
    private static final int FULL = SpreadGroups.FULL, NONE = SpreadGroups.NONE;
    private static final int LEAST = Integer.MIN_VALUE, MOST = Integer.MAX_VALUE;
    private static final String V = "volume 2 4 4 0 0 4;";
    private static final Due due = new Due("TapeEdgesTest");

    public static void main(String[] args) {
        bytesOfFeed();
        tapeIsFull();
        endOfTape();
        everyByteAsToken();
        everyByteBehindAName();
        everyByteBehindANumber();
        blanks();
        tokensAsLongAsMayBe();
        numbersOfTwoFigures();
        placesOfFaults();
        endComesEarly();
        wordsThatCanNotStand();
        parents();
        manyDirectories();
        namesAndSizes();
        firstFaultMet();
        namesThatAreThere();
        fullTexts();
        reserveOfATextCounts();
        countsBehindAText();
        textOfAFault();
        latestFault();
        textWhileSpoilt();
        due.end();
    }

    /** "A byte (0 to 127) comes behind THE TAPE: how many it has. BAD" */
    private static void bytesOfFeed() {
        int[] bad = {-1, 128, 255, 256, LEAST, MOST};
        for (int c : bad) {
            SpreadGroups x = new SpreadGroups();
            due.refused("feed " + c, x, () -> x.feed(c), BAD);
            due.is("feed behind it", x.feed(' '), 1);
        }
        SpreadGroups x = new SpreadGroups();
        for (int c = 0; c <= 127; c++) {
            due.is("feed " + c, x.feed(c), c + 1);
        }
        due.is("bytes", x.count(1), 128);
    }

    /** "THE TAPE has 200 bytes"; "FULL: more than 200" */
    private static void tapeIsFull() {
        SpreadGroups x = new SpreadGroups();
        Due.feed(x, V);
        for (int n = V.length() + 1; n <= 200; n++) {
            due.is("byte " + n, x.feed(' '), n);
        }
        due.refused("byte 201", x, () -> x.feed('?'), FULL);
        due.refused("what is no byte is BAD first", x, () -> x.feed(128), BAD);
        due.refused("what is no byte is BAD first", x, () -> x.feed(-1), BAD);
        due.is("the refused byte is not there", x.text(), 1);
        due.is("empty then", x.count(1), 0);
        due.is("there is room again", x.feed(' '), 1);
        SpreadGroups y = new SpreadGroups();
        Due.feed(y, " ".repeat(200 - V.length()) + V);
        due.is("bytes", y.count(1), 200);
        due.is("a text that ends with the tape", y.text(), 1);
        SpreadGroups z = new SpreadGroups();
        Due.feed(z, " ".repeat(200));
        due.is("end at 200", z.end(200), 200);
        due.is("end at 199", z.end(199), 200);
        due.is("the last byte", z.feed('?'), 200);
        due.is("one more", z.feed('?'), FULL);
        due.is("end above 200", z.end(201), BAD);
    }

    /** "THE TAPE keeps its first n bytes: how many it had. BAD (n above that, too)." */
    private static void endOfTape() {
        SpreadGroups x = new SpreadGroups();
        due.is("nothing of nothing", x.end(0), 0);
        due.refused("more than nothing", x, () -> x.end(1), BAD);
        Due.feed(x, V + "?");
        int length = V.length() + 1;
        int[] bad = {-1, length + 1, 200, 201, LEAST, MOST};
        for (int n : bad) {
            due.refused("end " + n, x, () -> x.end(n), BAD);
        }
        due.is("all of it", x.end(length), length);
        due.is("bytes", x.count(1), length);
        due.is("all but one", x.end(length - 1), length);
        due.is("bytes", x.count(1), length - 1);
        due.refused("what is gone is gone", x, () -> x.end(length), BAD);
        due.is("the bytes ahead are kept", x.text(), 1);
        due.is("end behind text", x.end(0), 0);
        Due.feed(x, V + "dir 0 1;dir 0 2;");
        due.is("the second dir is cut", x.end(V.length() + 8), V.length() + 16);
        Due.feed(x, "file 1 3 0;");
        due.is("another line in its place", x.text(), 3);
        due.is("the file", x.inode(x.find(x.find(0, 1), 3), 0), 2);
        due.is("no second dir", x.find(0, 2), NONE);
        Due.feed(x, "??");
        due.is("none is kept", x.end(0), 2);
        due.is("bytes", x.count(1), 0);
        due.is("again none", x.end(0), 0);
        due.is("a new text", Due.tell(x, V), 1);
    }

    private static boolean isLetter(int c) {
        return c >= 'a' && c <= 'z';
    }

    private static boolean isFigure(int c) {
        return c >= '0' && c <= '9';
    }

    /** "NAMES (a .. z), NUMBERS (1 or 2 figures), the sign ; (a point is none)"; "blanks (32)"; "1 no TOKEN" */
    private static void everyByteAsToken() {
        for (int c = 0; c <= 127; c++) {
            SpreadGroups x = new SpreadGroups();
            Due.feed(x, V);
            x.feed(c);
            boolean token = isLetter(c) || isFigure(c) || c == ';';
            due.is("byte " + c + " behind the volume", x.text(), c == ' ' ? 1 : -10 - V.length());
            due.is("its fault, byte " + c, x.fault(), c == ' ' ? 0 : token ? 2 : 1);
        }
    }

    /** A NAME goes on by letters alone. */
    private static void everyByteBehindAName() {
        for (int c = 0; c <= 127; c++) {
            SpreadGroups x = new SpreadGroups();
            Due.feed(x, V + "dir");
            x.feed(c);
            Due.feed(x, "0 1;");
            // A figure ahead of 0 makes a PARENT that there is not; but 00.
            int place = isLetter(c) ? 19 : 22;
            int fault = isLetter(c) || c == ';' ? 2 : isFigure(c) ? 3 : 1;
            boolean fine = c == ' ' || c == '0';
            due.is("byte " + c + " behind a name", x.text(), fine ? 2 : -10 - place);
            due.is("its fault, byte " + c, x.fault(), fine ? 0 : fault);
        }
    }

    /** A NUMBER goes on by figures alone, and needs no blank behind it. */
    private static void everyByteBehindANumber() {
        for (int c = 0; c <= 127; c++) {
            SpreadGroups x = new SpreadGroups();
            Due.feed(x, "volume 1 1 1 0 0 1");
            x.feed(c);
            Due.feed(x, ";");
            // Figures make 10 to 19 of it, out of the bounds of LIMIT; a second ; is no line.
            boolean fine = c == ' ';
            int place = isFigure(c) ? 17 : c == ';' ? 19 : 18;
            int fault = isFigure(c) ? 3 : isLetter(c) || c == ';' ? 2 : 1;
            due.is("byte " + c + " behind a number", x.text(), fine ? 1 : -10 - place);
            due.is("its fault, byte " + c, x.fault(), fine ? 0 : fault);
        }
    }

    /** "blanks (32) ahead, between, behind, as many as wanted (... else none is needed)" */
    private static void blanks() {
        String[] texts = {
            "volume1 1 2 0 0 1;file0 0 0;", "volume1 1 2 0 0 1;file0 0 0;   ", "   volume1 1 2 0 0 1;file0 0 0;",
            "volume   1   1   2   0   0   1   ;   file   0   0   0   ;   ", " volume 1 1 2 0 0 1 ; file 0 0 0 ; ",
        };
        for (String text : texts) {
            SpreadGroups x = new SpreadGroups();
            due.is(text, Due.tell(x, text), 2);
            due.is(text + " fault", x.fault(), 0);
        }
        due.fault(1, "volume^\t1 1 2 0 0 1;");
        due.fault(1, "volume 1 1 2 0 0 1;^\n");
        due.fault(1, "^\rvolume 1 1 2 0 0 1;");
        due.fault(1, "volume 1^,1");
        // Two NUMBERS without a blank are one; so there is one too few, or it is out of its bounds.
        due.fault(3, "volume ^11 2 0 0 1;");
        due.fault(2, "volume 1 1 2 0 01^;");
        due.fault(1, "volume 1 1 2 ^001;");
        due.fault(2, V + "dir 00^;");
        due.fault(3, V + "dir ^01;");
        due.fault(2, V + "file 0 00^;");
        // Two NAMES without a blank are one.
        due.fault(2, "^volumevolume 1");
        due.fault(2, V + "^dirfile 0 1;");
        // A NAME with a blank in it are two.
        due.fault(2, "^vol ume 1 1 1 0 0 1;");
        due.fault(2, V + "^di r 0 1;");
    }

    /** "TOKENS, each as long as may be" */
    private static void tokensAsLongAsMayBe() {
        due.fault(2, "^volumea 1 1 1 0 0 1;");
        due.fault(2, V + "^dira 0 0;");
        due.fault(2, V + "^filez 0 0 0;");
        due.fault(2, V + "^d 0 0;");
        due.fault(2, V + "^di 0 0;");
        due.fault(2, V + "^f 0 0 0;");
        due.fault(2, V + "file^");
        due.fault(2, "^" + "v".repeat(199));
        due.fault(2, "^" + "v".repeat(200));
        due.fault(1, "^" + "0".repeat(200));
        due.fault(1, "^" + "9".repeat(200));
    }

    /** "NUMBERS (1 or 2 figures)"; "1 ... a NUMBER that is too long (its first byte)" */
    private static void numbersOfTwoFigures() {
        SpreadGroups x = new SpreadGroups();
        due.is("leading noughts", Due.tell(x, "volume 02 04 04 00 00 04;file 00 09 07;"), 2);
        due.are("its rules", new int[] {x.rule(0), x.rule(1), x.rule(2), x.rule(3), x.rule(4), x.rule(5)}, 2, 4, 4, 0, 0, 4);
        due.is("its file", x.inode(x.find(0, 9), 3), 7);
        SpreadGroups y = new SpreadGroups();
        due.is("two figures", Due.tell(y, "volume 2 8 4 0 10 8;file 0 0 40;"), 2);
        due.is("reserve", y.rule(4), 10);
        due.is("size", y.inode(1, 3), 40);
        due.fault(1, "volume ^002 4 4 0 0 4;");
        due.fault(1, "volume 2 4 4 0 ^000 4;");
        due.fault(1, "volume 2 4 4 0 ^100 4;");
        due.fault(1, V + "file 0 0 ^040;");
        due.fault(1, V + "file 0 ^000 1;");
        due.fault(1, V + "file ^000 0 1;");
        due.fault(1, V + "file 0 0 1^?");
        // Too long goes ahead of what can not stand there, and of its bounds.
        due.fault(1, "^123");
        due.fault(1, V + "^123");
        due.fault(1, V + "dir 0 1 ^123;");
        due.fault(1, V + "dir ^999 1;");
        // As many as 2 to the 32 and 1, so that it would be small if it ran over.
        due.fault(1, "volume ^4294967297 4 4 0 0 4;");
    }

    /** "-10 less the place of its FAULT", "places from 0" */
    private static void placesOfFaults() {
        for (int place = 0; place < 200; place++) {
            SpreadGroups x = new SpreadGroups();
            Due.feed(x, " ".repeat(place) + "?");
            due.is("a fault at " + place, x.text(), -10 - place);
            due.is("its fault", x.fault(), 1);
        }
        due.fault(1, V + " ".repeat(199 - V.length()) + "^?");
        due.fault(2, V + " ".repeat(199 - V.length()) + "^;");
        due.fault(2, V + " ".repeat(199 - V.length()) + "^d");
        due.fault(2, V + " ".repeat(197 - V.length()) + "dir^");
    }

    /** "2 ... (or the end: the length)" */
    private static void endComesEarly() {
        String whole = "volume 2 4 4 0 0 4;dir 0 1;file 1 2 3;";
        for (int n = 0; n <= whole.length(); n++) {
            String text = whole.substring(0, n);
            SpreadGroups x = new SpreadGroups();
            int answer = Due.tell(x, text);
            if (n == 19 || n == 27 || n == whole.length()) {
                due.is("whole: " + text, answer, n == 19 ? 1 : n == 27 ? 2 : 3);
                due.is("whole: " + text, x.fault(), 0);
            } else {
                // In the midst of a NAME it is another NAME; else the end is the FAULT.
                int word = n > 0 && n < 6 ? 0 : n > 19 && n < 22 ? 19 : n > 27 && n < 31 ? 27 : n;
                due.is("cut: " + text, answer, -10 - word);
                due.is("cut: " + text, x.fault(), 2);
            }
            if (n == 6 || n == 18 || n == 22 || n == 37) {
                due.fault(2, text + "   ^");
            }
        }
        due.fault(2, "^");
        due.fault(2, " ^");
        due.fault(2, " ".repeat(200) + "^");
        due.fault(2, "volume" + " ".repeat(194) + "^");
    }

    /** "2 a TOKEN that can not stand there" */
    private static void wordsThatCanNotStand() {
        // At each place of a whole text each other sort of TOKEN.
        String[] tokens = {"volume", "1", "1", "3", "0", "0", "1", ";", "dir", "0", "1", ";", "file", "0", "2", "0", ";"};
        String[] others = {"volume", "0", ";", "dir", "file", "x"};
        for (int at = 0; at < tokens.length; at++) {
            StringBuilder ahead = new StringBuilder();
            for (int t = 0; t < at; t++) {
                ahead.append(tokens[t]).append(' ');
            }
            boolean lineMayBegin = at == 8 || at == 12;
            for (String other : others) {
                boolean number = other.equals("0") && Character.isDigit(tokens[at].charAt(0));
                boolean line = lineMayBegin && (other.equals("dir") || other.equals("file"));
                if (!number && !line && !other.equals(tokens[at])) {
                    due.fault(2, ahead + "^" + other + " 0 0;");
                }
            }
        }
        due.fault(2, V + "^;");
        due.fault(2, V + "dir 0 1;^;");
        due.fault(2, V + "dir 0 1;^volume 2 4 4 0 0 4;");
        due.fault(2, V + "dir 0 1 ^2;");
        due.fault(2, V + "file 0 1 2 ^3;");
        due.fault(2, "volume 2 4 4 0 0 4 ^4;");
    }

    /** "0 the ROOT, d the d-th dir of the text (1 on)"; "3 ... a PARENT that there is not yet" */
    private static void parents() {
        due.fault(3, V + "dir ^1 0;");
        due.fault(3, V + "file ^1 0 0;");
        due.fault(3, V + "file ^99 0 0;");
        due.fault(3, V + "file 0 0 0;dir ^1 0;");
        due.fault(3, V + "dir 0 0;dir ^2 0;");
        due.fault(3, V + "dir 0 0;file 0 1 0;file ^2 2 0;");
        due.fault(3, V + "dir 0 0;dir 1 0;dir ^3 0;");
        SpreadGroups x = Due.told(V + "file 0 5 0;dir 0 0;file 0 6 0;dir 1 1;file 1 2 0;file 2 3 0;file 0 4 0;");
        int first = x.find(0, 0);
        int second = x.find(first, 1);
        due.is("the first dir", x.inode(first, 0), 1);
        due.is("the second lies in it", x.inode(second, 0), 1);
        due.is("a file in the first", x.inode(x.find(first, 2), 0), 2);
        due.is("a file in the second", x.inode(x.find(second, 3), 0), 2);
        due.is("a file in the root", x.inode(x.find(0, 4), 0), 2);
        due.is("inodes", x.rule(8) * 10 + x.rule(9), 35);
    }

    /** As many dirs as INODES may be: 23 beside the ROOT, each in the one ahead. */
    private static void manyDirectories() {
        StringBuilder text = new StringBuilder("volume4 8 6 0 0 8;");
        for (int d = 0; d < 23; d++) {
            text.append("dir").append(d).append(" 7;");
        }
        SpreadGroups x = new SpreadGroups();
        due.is("bytes", text.length() <= 200 ? 1 : 0, 1);
        due.is("a chain of dirs", Due.tell(x, text.toString()), 24);
        int at = 0;
        for (int d = 0; d < 23; d++) {
            int next = x.find(at, 7);
            due.is("the parent of dir " + (d + 1), x.inode(next, 1), at);
            due.is("how far it is", x.move(next, at, 7), d + 1);
            at = next;
        }
        due.is("the last one has none", x.entry(at, 0), NONE);
        int last = at;
        int first = x.find(0, 7);
        due.refused("the first can not go into the last", x, () -> x.move(first, last, 0), STATE);
        due.is("the last can go to the root", x.move(last, 0, 0), 1);
        due.fault(5, text + "dir0 8^;");
        due.fault(3, text + "dir^24 8;");
        due.fault(3, text + "dir23 ^10;");
        due.fault(5, text + "dir23 9^;");
    }

    /** "3 a NUMBER out of its bounds (NAMES 0 to 9)"; "the SIZE (0 to 40)" */
    private static void namesAndSizes() {
        for (int name = 0; name <= 9; name++) {
            SpreadGroups x = Due.told(V + "dir 0 " + name + ";file 1 " + name + " 0;");
            due.is("a dir named " + name, x.inode(x.find(0, name), 0), 1);
            due.is("a file named " + name, x.inode(x.find(x.find(0, name), name), 0), 2);
        }
        due.fault(3, V + "dir 0 ^10;");
        due.fault(3, V + "dir 0 ^99;");
        due.fault(3, V + "file 0 ^10 0;");
        due.fault(3, V + "file 0 ^99 0;");
        due.fault(3, V + "file 0 0 ^41;");
        due.fault(3, V + "file 0 0 ^99;");
        // 40 is within its bounds, though here it is FULL.
        due.fault(5, V + "file 0 0 40^;");
        SpreadGroups x = new SpreadGroups();
        due.is("size 40", Due.tell(x, "volume 2 8 4 0 0 4;file 0 0 40;"), 2);
        due.is("size 0", Due.tell(x, "volume 1 1 2 0 99 1;file 0 0 0;"), 2);
        due.is("it is there", x.inode(1, 0), 2);
    }

    /** "the first met as it is read (a TOKEN is read when the one before has been taken)" */
    private static void firstFaultMet() {
        due.fault(3, "volume ^5?");
        due.fault(2, "^dir?");
        due.fault(2, "volume ^dir?");
        due.fault(1, "volume 1 ^? 9");
        due.fault(3, "volume 1 ^9 ?");
        due.fault(4, V + "dir 0 1;dir 0 1^;?");
        due.fault(4, V + "dir 0 1;dir 0 1^; x");
        due.fault(5, "volume 1 1 1 0 0 1;dir 0 1^;?");
        // Those of a line are met at its sign: all in it goes ahead.
        due.fault(1, V + "dir 0 1;dir 0 1^?");
        due.fault(2, V + "dir 0 1;dir 0 1^");
        due.fault(2, V + "dir 0 1;dir 0 1 ^1;");
        due.fault(3, V + "dir 0 1;file 0 1 ^41;");
        due.fault(3, V + "dir 0 1;file ^2 1 41;");
        due.fault(2, "volume 1 1 1 0 0 1;dir 0 1^");
        due.fault(3, "volume 1 1 1 0 0 1;file 0 1 ^41;");
        due.fault(3, "volume 1 1 1 0 0 1;dir 0 ^10;");
        due.fault(3, "volume 1 1 1 0 0 1;dir ^1 10;");
        // A NAME that is there goes ahead of FULL.
        due.fault(4, "volume 1 1 2 0 0 1;dir 0 1;dir 0 1^;");
        due.fault(4, "volume 1 1 2 0 0 1;file 0 1 0;file 0 1 40^;");
        due.fault(4, "volume 1 1 3 0 3 1;file 0 1 0;dir 0 1^;");
        due.fault(4, V + "dir 0 1;dir 0 1   ^;");
    }

    /** "4 the PARENT has that NAME" */
    private static void namesThatAreThere() {
        due.fault(4, V + "dir 0 0;dir 0 0^;");
        due.fault(4, V + "dir 0 0;file 0 0 0^;");
        due.fault(4, V + "file 0 9 0;dir 0 9^;");
        due.fault(4, V + "file 0 9 0;file 0 9 0^;");
        due.fault(4, V + "dir 0 0;dir 1 0;dir 2 0;dir 2 0^;");
        SpreadGroups x = new SpreadGroups();
        due.is("the same in other parents", Due.tell(x, V + "dir 0 0;dir 1 0;dir 2 0;file 3 0 0;"), 5);
    }

    /** "5 it is FULL" */
    private static void fullTexts() {
        SpreadGroups x = new SpreadGroups();
        due.is("as many files as inodes", Due.tell(x, "volume 1 1 3 0 0 1;file 0 0 0;file 0 1 0;"), 3);
        due.fault(5, "volume 1 1 3 0 0 1;file 0 0 0;file 0 1 0;file 0 2 0^;");
        due.fault(5, "volume 1 1 3 0 0 1;file 0 0 0;file 0 1 0;dir 0 2^;");
        due.is("all the room", Due.tell(x, "volume 1 1 3 0 0 1;file 0 0 3;"), 2);
        due.is("is not there", x.rule(6), 0);
        due.fault(5, "volume 1 1 3 0 0 1;file 0 0 4^;");
        due.fault(5, "volume 1 1 3 0 0 1;file 0 0 3;dir 0 1^;");
        due.fault(5, "volume 1 1 3 0 0 1;file 0 0 3;file 0 1 1^;");
        due.is("a file of nothing", Due.tell(x, "volume 1 1 3 0 0 1;file 0 0 3;file 0 1 0;"), 3);
        due.is("dirs to the last fragment", Due.tell(x, "volume 1 1 6 0 0 1;dir 0 0;dir 0 1;dir 0 2;"), 4);
        due.fault(5, "volume 1 1 6 0 0 1;dir 0 0;dir 0 1;dir 0 2;dir 0 3^;");
        // ROOM is 4, but no BLOCK is FREE, and the longest RUN is of 2.
        String parts = "volume 1 3 5 0 0 1;file 0 0 1;file 0 1 3;file 0 2 3;";
        due.fault(5, parts + "file 0 3 4^;");
        due.fault(5, parts + "file 0 3 3^;");
        due.is("a run of 2", Due.tell(x, parts + "file 0 3 2;"), 5);
    }

    /** "FULL, if ROOM less n is below RESERVE"; of a DIRECTORY, if "ROOM less 1 is below RESERVE" */
    private static void reserveOfATextCounts() {
        SpreadGroups x = new SpreadGroups();
        due.is("down to the reserve", Due.tell(x, "volume 1 2 3 0 4 1;file 0 0 3;"), 2);
        due.is("room", x.rule(6), 4);
        due.fault(5, "volume 1 2 3 0 5 1;file 0 0 3^;");
        due.is("a dir down to it", Due.tell(x, "volume 1 2 3 0 6 1;dir 0 0;"), 2);
        due.fault(5, "volume 1 2 3 0 7 1;dir 0 0^;");
        due.is("the root below it", Due.tell(x, "volume 1 2 3 0 99 1;file 0 0 0;"), 2);
        due.fault(5, "volume 1 2 3 0 99 1;file 0 0 1^;");
        due.fault(5, "volume 1 2 3 0 99 1;dir 0 0^;");
    }

    /** "A text that is taken tells all ... ANEW": a FILE that is told is neither EXTENDED nor MOVED. */
    private static void countsBehindAText() {
        SpreadGroups x = Due.told("volume 2 4 4 0 0 4;file 0 0 7;file 0 1 9;dir 0 2;");
        due.are("counts", new int[] {x.rule(13), x.rule(14)}, 0, 0);
    }

    /** "THE TAPE (empty then, by a FAULT, too)"; "that which was told stays"; "what is refused changes nothing" */
    private static void textOfAFault() {
        String[] texts = {
            "", "?", "volume", "volume 4 8 6 3 99 8", "volume 4 8 6 3 99 8;?", "volume 1 8 6 3 99 8;dir 0 0;",
            "volume 1 1 3 0 0 1;file 0 0 0;file 0 0 0;", "volume 4 8 6 3 9 8;dir 0 0;dir 1 0;file 2 2 40;file 3 0 0;",
        };
        for (String text : texts) {
            SpreadGroups x = Due.told("volume 3 4 3 1 2 3;dir 0 1;file 1 2 9;file 0 3 3;");
            x.grow(x.find(0, 3), 1);
            x.keep(0);
            x.remove(x.find(0, 3));
            x.flip(20);
            String before = allButTheFault(x);
            due.is("refused: " + text, Due.tell(x, text) <= -10 ? 1 : 0, 1);
            due.is("a fault: " + text, x.fault() > 0 ? 1 : 0, 1);
            due.is("all else stays: " + text, allButTheFault(x).equals(before) ? 1 : 0, 1);
            due.is("the image stays: " + text, x.back(0), 4);
            due.is("as it was", x.inode(x.find(0, 3), 3), 4);
            due.is("the other is not there", x.back(1), STATE);
        }
    }

    private static String allButTheFault(SpreadGroups x) {
        String all = Due.allOf(x);
        return all.substring(0, all.lastIndexOf(' '));
    }

    /** "The FAULT of the latest text(); 0." */
    private static void latestFault() {
        SpreadGroups x = new SpreadGroups();
        due.is("no text yet", x.fault(), 0);
        String[] texts = {"?", V + "?", "dir", "volume 9", V + "dir 0 0;dir 0 0;", V + "file 0 0 40;", V, "?", ""};
        int[] faults = {1, 1, 2, 3, 4, 5, 0, 1, 2};
        for (int t = 0; t < texts.length; t++) {
            Due.feed(x, texts[t]);
            int before = x.fault();
            due.is("while it is fed", before, t == 0 ? 0 : faults[t - 1]);
            x.text();
            due.is("fault of " + texts[t], x.fault(), faults[t]);
            due.is("asked again", x.fault(), faults[t]);
        }
        x.feed(128);
        x.end(5);
        x.make(0, 0, 2);
        x.keep(0);
        x.back(0);
        due.is("other calls do not change it", x.fault(), 2);
    }

    /** text() is no deed: a SPOILT map does not refuse it, and is gone. */
    private static void textWhileSpoilt() {
        SpreadGroups x = new SpreadGroups();
        x.flip(0);
        x.flip(31);
        due.is("told", Due.tell(x, V + "file 0 0 3;"), 2);
        due.is("not spoilt", x.check(2), NONE);
        due.is("a deed", x.grow(1, 1), 4);
    }
}
