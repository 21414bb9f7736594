/** A volume in groups, as ../shared/DOC.md tells it; the words in capitals are that document's terms. */
public final class SpreadGroups {
    public static final int BAD = -1, STATE = -2, FULL = -3, NONE = -4;

    private static final int NOTHING = 0, DIRECTORY = 1, FILE = 2;
    private static final int ROOT = 0;
    private static final int PARTS = 4;
    private static final int ALL_PARTS = 15;
    private static final int MOST_BLOCKS = 32, MOST_INODES = 24;
    private static final int MOST_SIZE = 40, MOST_FILE_BLOCKS = 10;
    private static final int NAMES = 10;
    private static final int MOST_DEEDS = 20;
    private static final int TAPE_BYTES = 200;
    private static final int FIRST_PLACE = -10;

    private static final int RULES = 6;
    private static final int[] LEAST_RULES = {1, 1, 1, 0, 0, 1};
    private static final int[] MOST_RULES = {4, 8, 6, 3, 99, 8};
    private static final int[] RULES_AT_FIRST = {2, 4, 4, 0, 0, 4};

    private static final int FAULT_TOKEN = 1, FAULT_GRAMMAR = 2, FAULT_BOUNDS = 3, FAULT_NAME = 4, FAULT_FULL = 5;

    private final Volume volume = new Volume();
    private final Deeds deeds = new Deeds(volume);
    private final Tape tape = new Tape();
    private final Reader reader = new Reader(tape);
    // A text is told here first, so that one with a FAULT leaves what was told before.
    private final Volume draft = new Volume();
    private final Deeds draftDeeds = new Deeds(draft);
    private final int[] toldDirectories = new int[MOST_INODES];
    private int toldCount;
    private int latestFault;
    private final Volume imageZero = new Volume();
    private final Volume imageOne = new Volume();
    private boolean hasImageZero;
    private boolean hasImageOne;
    private int seedNow;

    public SpreadGroups() {
        volume.startAnew(RULES_AT_FIRST);
    }

    // ---- the text

    public int feed(int c) {
        if (c < 0 || c > 127) {
            return BAD;
        }
        return tape.append(c) ? tape.length : FULL;
    }

    public int end(int n) {
        if (n < 0 || n > tape.length) {
            return BAD;
        }
        int had = tape.length;
        tape.length = n;
        return had;
    }

    public int text() {
        reader.rewind();
        boolean fine = reader.readRules();
        if (fine) {
            draft.startAnew(reader.numbers);
            toldCount = 0;
        }
        for (int n = 0; fine && n < TAPE_BYTES && reader.hasMore(); n++) {
            fine = reader.readLine(toldCount) && tellLine();
        }
        tape.length = 0;
        latestFault = reader.fault;
        if (!fine) {
            return FIRST_PLACE - reader.faultPlace;
        }
        volume.copyFrom(draft);
        hasImageZero = false;
        hasImageOne = false;
        return volume.inodes.howManyAreThere();
    }

    private boolean tellLine() {
        int i = draftDeeds.makeInode(toldParent(reader.numbers[0]), reader.numbers[1], reader.lineKind);
        if (i == STATE) {
            return reader.refuseLine(FAULT_NAME);
        }
        if (i < 0) {
            return reader.refuseLine(FAULT_FULL);
        }
        if (reader.lineKind == DIRECTORY) {
            noteDirectory(i);
            return true;
        }
        int size = reader.numbers[2];
        if (size > 0 && draftDeeds.growFile(i, size) < 0) {
            return reader.refuseLine(FAULT_FULL);
        }
        return true;
    }

    private int toldParent(int d) {
        return d > 0 && d <= toldCount && d <= toldDirectories.length ? toldDirectories[d - 1] : ROOT;
    }

    private void noteDirectory(int i) {
        if (toldCount >= 0 && toldCount < toldDirectories.length) {
            toldDirectories[toldCount] = i;
            toldCount++;
        }
    }

    public int fault() {
        return latestFault;
    }

    // ---- what there is

    public int rule(int what) {
        if (what < 0 || what > 14) {
            return BAD;
        }
        switch (what) {
            case 6: return volume.map.freeFragments();
            case 7: return volume.map.freeBlocks();
            case 8: return volume.inodes.howMany(DIRECTORY);
            case 9: return volume.inodes.howMany(FILE);
            case 10: return volume.inodes.sizesOfAll();
            case 11: return volume.pairsOfAll(false);
            case 12: return volume.pairsOfAll(true);
            case 13: return volume.extended;
            case 14: return volume.moved;
            default: return volume.layout.number(what);
        }
    }

    public int group(int g, int what) {
        if (g < 0 || g >= volume.layout.groups || what < 0 || what > 6) {
            return BAD;
        }
        switch (what) {
            case 0: return volume.map.freeFragmentsIn(g);
            case 1: return volume.map.freeBlocksIn(g);
            case 2: return volume.inodes.howManyIn(g, NOTHING);
            case 3: return volume.inodes.howManyIn(g, DIRECTORY);
            default: return volume.map.runsIn(g, what - 3);
        }
    }

    public int inode(int i, int what) {
        if (!volume.inodes.isNumber(i) || what < 0 || what > 7) {
            return BAD;
        }
        int kind = volume.inodes.kindOf(i);
        if (what == 0) {
            return kind;
        }
        if (kind == NOTHING) {
            return NONE;
        }
        switch (what) {
            case 1: return volume.inodes.parentOf(i);
            case 2: return volume.inodes.nameOf(i);
            case 3: return volume.inodes.sizeOf(i);
            case 4: return volume.inodes.blocksOf(i);
            case 5: return volume.inodes.tailOf(i);
            default: return volume.pairsOf(i, what == 7);
        }
    }

    public int block(int i, int k) {
        if (!volume.inodes.isNumber(i) || k < 0) {
            return BAD;
        }
        return k < volume.inodes.blocksOf(i) ? volume.inodes.blockAt(i, k) : NONE;
    }

    public int fragment(int x, int what) {
        if (!volume.layout.isFragment(x) || what < 0 || what > 1) {
            return BAD;
        }
        if (what == 0) {
            return volume.map.isFree(x) ? 1 : 0;
        }
        return volume.inodes.ownerOf(x);
    }

    public int find(int d, int name) {
        if (volume.inodes.kindOf(d) != DIRECTORY || !isName(name)) {
            return BAD;
        }
        return volume.inodes.named(d, name);
    }

    public int entry(int d, int i) {
        if (volume.inodes.kindOf(d) != DIRECTORY || i < 0) {
            return BAD;
        }
        int seen = 0;
        for (int name = 0; name < NAMES; name++) {
            int child = volume.inodes.named(d, name);
            if (child != NONE) {
                if (seen == i) {
                    return child;
                }
                seen++;
            }
        }
        return NONE;
    }

    public int where(int d, int kind) {
        if (volume.inodes.kindOf(d) != DIRECTORY || (kind != DIRECTORY && kind != FILE)) {
            return BAD;
        }
        return volume.groupFor(d, kind);
    }

    private static boolean isName(int name) {
        return name >= 0 && name < NAMES;
    }

    // ---- deeds

    public int make(int d, int name, int kind) {
        return deeds.makeInode(d, name, kind);
    }

    public int grow(int i, int n) {
        return deeds.growFile(i, n);
    }

    public int shrink(int i, int n) {
        return deeds.shrinkFile(i, n);
    }

    public int remove(int i) {
        return deeds.removeInode(i);
    }

    public int move(int i, int d, int name) {
        return deeds.moveInode(i, d, name);
    }

    public int gather(int i) {
        return deeds.gatherFile(i);
    }

    public int draw(int seed, int n) {
        if (n < 1 || n > MOST_DEEDS) {
            return BAD;
        }
        if (volume.isSpoilt()) {
            return STATE;
        }
        seedNow = seed;
        int answered = 0;
        for (int deed = 0; deed < n; deed++) {
            if (drawnDeed() >= 0) {
                answered++;
            }
        }
        return answered;
    }

    private int drawnDeed() {
        int which = drawnNumber() % 6;
        int inodes = volume.layout.allInodes();
        int a = drawnNumber();
        a = inodes > 0 ? a % inodes : ROOT;
        int name = drawnNumber() % NAMES;
        int more = drawnNumber() % 9 + 1;
        if (which == 0) {
            return deeds.makeInode(a, name, DIRECTORY);
        }
        if (which == 5) {
            return deeds.removeInode(a);
        }
        int file = which <= 2 ? deeds.makeInode(a, name, FILE) : a;
        return file < 0 ? file : deeds.growFile(file, more);
    }

    private int drawnNumber() {
        seedNow = seedNow * 1103515245 + 12345;
        return (seedNow >>> 16) & 0x7fff;
    }

    // ---- the map, images

    public int flip(int x) {
        if (!volume.layout.isFragment(x)) {
            return BAD;
        }
        boolean was = volume.map.isFree(x);
        volume.map.put(x, 1, !was);
        return was ? 1 : 0;
    }

    public int check(int what) {
        if (what < 0 || what > 2) {
            return BAD;
        }
        if (what == 2) {
            return volume.firstWrong();
        }
        return volume.wrongs(what == 0);
    }

    public int mend() {
        int wrongs = volume.wrongs(true) + volume.wrongs(false);
        volume.mendMap();
        return wrongs;
    }

    public int keep(int k) {
        if (k < 0 || k > 1) {
            return BAD;
        }
        boolean was = hasImage(k);
        if (k == 0) {
            imageZero.copyFrom(volume);
            hasImageZero = true;
        } else {
            imageOne.copyFrom(volume);
            hasImageOne = true;
        }
        return was ? 1 : 0;
    }

    public int back(int k) {
        if (k < 0 || k > 1) {
            return BAD;
        }
        if (!hasImage(k)) {
            return STATE;
        }
        volume.copyFrom(k == 0 ? imageZero : imageOne);
        return volume.inodes.howManyAreThere();
    }

    public int count(int what) {
        if (what < 0 || what > 1) {
            return BAD;
        }
        if (what == 1) {
            return tape.length;
        }
        return (hasImageZero ? 1 : 0) + (hasImageOne ? 1 : 0);
    }

    private boolean hasImage(int k) {
        return k == 0 ? hasImageZero : hasImageOne;
    }

    /** The bytes of THE TAPE. */
    private static final class Tape {
        private final int[] bytes = new int[TAPE_BYTES];
        private int length;

        boolean append(int c) {
            if (length < 0 || length >= bytes.length) {
                return false;
            }
            bytes[length] = c;
            length++;
            return true;
        }

        int byteAt(int p) {
            return p >= 0 && p < length && p < bytes.length ? bytes[p] : NONE;
        }

        boolean hasLetterAt(int p) {
            int c = byteAt(p);
            return c >= 'a' && c <= 'z';
        }

        boolean hasFigureAt(int p) {
            int c = byteAt(p);
            return c >= '0' && c <= '9';
        }
    }

    /** Reads THE TAPE by TOKENS, and keeps its first FAULT; what reads answers false by a FAULT. */
    private static final class Reader {
        private static final int WORD = 1, NUMBER = 2, SIGN = 3, NO_MORE = 4;

        private final Tape tape;
        private final int[] numbers = new int[RULES];
        private int lineKind;
        private int fault;
        private int faultPlace;
        private int next;
        private int tokenSort;
        private int tokenPlace;
        private int tokenValue;

        Reader(Tape tape) {
            this.tape = tape;
        }

        void rewind() {
            next = 0;
            fault = 0;
            faultPlace = 0;
        }

        boolean hasMore() {
            passBlanks();
            return next < tape.length;
        }

        boolean readRules() {
            if (!takeWord("volume")) {
                return false;
            }
            for (int r = 0; r < RULES; r++) {
                if (!takeNumber(r, LEAST_RULES[r], MOST_RULES[r])) {
                    return false;
                }
            }
            return takeSign();
        }

        boolean readLine(int parents) {
            if (!readToken()) {
                return false;
            }
            if (!isWord("dir") && !isWord("file")) {
                return refuse(FAULT_GRAMMAR, tokenPlace);
            }
            lineKind = isWord("dir") ? DIRECTORY : FILE;
            return takeNumber(0, 0, parents)
                && takeNumber(1, 0, NAMES - 1)
                && (lineKind == DIRECTORY || takeNumber(2, 0, MOST_SIZE))
                && takeSign();
        }

        /** A FAULT of a whole line stands at its sign, the TOKEN that was read last. */
        boolean refuseLine(int which) {
            return refuse(which, tokenPlace);
        }

        private boolean refuse(int which, int place) {
            fault = which;
            faultPlace = place;
            return false;
        }

        private boolean takeWord(String word) {
            return readToken() && (isWord(word) || refuse(FAULT_GRAMMAR, tokenPlace));
        }

        private boolean takeSign() {
            return readToken() && (tokenSort == SIGN || refuse(FAULT_GRAMMAR, tokenPlace));
        }

        private boolean takeNumber(int slot, int least, int most) {
            if (!readToken()) {
                return false;
            }
            if (tokenSort != NUMBER) {
                return refuse(FAULT_GRAMMAR, tokenPlace);
            }
            if (tokenValue < least || tokenValue > most || slot < 0 || slot >= numbers.length) {
                return refuse(FAULT_BOUNDS, tokenPlace);
            }
            numbers[slot] = tokenValue;
            return true;
        }

        private boolean isWord(String word) {
            if (tokenSort != WORD || next - tokenPlace != word.length()) {
                return false;
            }
            for (int p = 0; p < word.length(); p++) {
                if (tape.byteAt(tokenPlace + p) != word.charAt(p)) {
                    return false;
                }
            }
            return true;
        }

        private boolean readToken() {
            passBlanks();
            tokenPlace = next;
            if (next >= tape.length) {
                tokenSort = NO_MORE;
                return true;
            }
            if (tape.hasFigureAt(next)) {
                return readNumber();
            }
            if (tape.hasLetterAt(next)) {
                tokenSort = WORD;
                while (next < tape.length && tape.hasLetterAt(next)) {
                    next++;
                }
                return true;
            }
            if (tape.byteAt(next) != ';') {
                return refuse(FAULT_TOKEN, tokenPlace);
            }
            tokenSort = SIGN;
            next++;
            return true;
        }

        private boolean readNumber() {
            tokenSort = NUMBER;
            tokenValue = 0;
            while (next < tape.length && tape.hasFigureAt(next)) {
                tokenValue = tokenValue * 10 + (tape.byteAt(next) - '0');
                next++;
            }
            return next - tokenPlace <= 2 || refuse(FAULT_TOKEN, tokenPlace);
        }

        private void passBlanks() {
            while (next < tape.length && tape.byteAt(next) == ' ') {
                next++;
            }
        }
    }

    /** The six numbers of a VOLUME, and how BLOCKS, FRAGMENTS, INODES are numbered by them. */
    private static final class Layout {
        private int groups;
        private int blocks;
        private int inodes;
        private int step;
        private int reserve;
        private int limit;

        void set(int[] rules) {
            if (rules == null || rules.length < RULES) {
                return;
            }
            groups = rules[0];
            blocks = rules[1];
            inodes = rules[2];
            step = rules[3];
            reserve = rules[4];
            limit = rules[5];
        }

        void copyFrom(Layout other) {
            groups = other.groups;
            blocks = other.blocks;
            inodes = other.inodes;
            step = other.step;
            reserve = other.reserve;
            limit = other.limit;
        }

        int number(int what) {
            switch (what) {
                case 0: return groups;
                case 1: return blocks;
                case 2: return inodes;
                case 3: return step;
                case 4: return reserve;
                default: return limit;
            }
        }

        int allBlocks() {
            return groups * blocks;
        }

        int allInodes() {
            return groups * inodes;
        }

        boolean isFragment(int x) {
            return x >= 0 && x < groups * blocks * PARTS;
        }

        /** The GROUP j behind g, round; j is 0 to G less 1. */
        int behind(int g, int j) {
            int h = g + j;
            return h < groups ? h : h - groups;
        }

        int groupOfInode(int i) {
            return inodes > 0 ? i / inodes : 0;
        }

        int groupOfBlock(int b) {
            return blocks > 0 ? b / blocks : 0;
        }

        /** The PLACE where the BLOCK that follows b should lie. */
        int placeBehind(int b) {
            return blocks > 0 ? (b % blocks + 1 + step) % blocks : 0;
        }

        boolean leadsOn(int k) {
            return limit > 0 && k % limit == 0;
        }
    }

    /** THE MAP: of each BLOCK a bit for each FRAGMENT, set if that is FREE. */
    private static final class FreeMap {
        private final Layout layout;
        private final int[] bits = new int[MOST_BLOCKS];

        FreeMap(Layout layout) {
            this.layout = layout;
        }

        void copyFrom(FreeMap other) {
            System.arraycopy(other.bits, 0, bits, 0, MOST_BLOCKS);
        }

        void freeAll() {
            for (int b = 0; b < bits.length; b++) {
                bits[b] = b < layout.allBlocks() ? ALL_PARTS : 0;
            }
        }

        private int bitsOf(int b) {
            return b >= 0 && b < bits.length ? bits[b] : 0;
        }

        private boolean isFreeBlock(int b) {
            return b >= 0 && b < bits.length && bits[b] == ALL_PARTS;
        }

        boolean isFree(int x) {
            return areFree(x, 1);
        }

        /** Whether n FRAGMENTS from x on are FREE, and all in the BLOCK of x. */
        boolean areFree(int x, int n) {
            if (x < 0 || n < 0 || x % PARTS + n > PARTS) {
                return false;
            }
            int mask = ((1 << n) - 1) << (x % PARTS);
            return (bitsOf(x / PARTS) & mask) == mask;
        }

        /** n FRAGMENTS from x on, all in one BLOCK, become FREE or not. */
        void put(int x, int n, boolean free) {
            if (x < 0 || n < 0 || x % PARTS + n > PARTS || x / PARTS >= bits.length) {
                return;
            }
            int mask = ((1 << n) - 1) << (x % PARTS);
            int b = x / PARTS;
            bits[b] = free ? bits[b] | mask : bits[b] & ~mask;
        }

        int freeFragmentsIn(int g) {
            int n = 0;
            for (int p = 0; p < layout.blocks; p++) {
                n += Integer.bitCount(bitsOf(g * layout.blocks + p));
            }
            return n;
        }

        int freeFragments() {
            int n = 0;
            for (int g = 0; g < layout.groups; g++) {
                n += freeFragmentsIn(g);
            }
            return n;
        }

        int freeBlocksIn(int g) {
            int n = 0;
            for (int p = 0; p < layout.blocks; p++) {
                if (isFreeBlock(g * layout.blocks + p)) {
                    n++;
                }
            }
            return n;
        }

        int freeBlocks() {
            int n = 0;
            for (int b = 0; b < layout.allBlocks(); b++) {
                if (isFreeBlock(b)) {
                    n++;
                }
            }
            return n;
        }

        /** How long the RUN that begins at FRAGMENT x is; 0: none begins there. */
        private int runAt(int x) {
            if (x < 0 || x / PARTS >= bits.length) {
                return 0;
            }
            int free = bits[x / PARTS];
            int part = x % PARTS;
            boolean goesOn = part > 0 && (free >> (part - 1) & 1) == 1;
            if (free == ALL_PARTS || goesOn) {
                return 0;
            }
            int n = 0;
            while (part + n < PARTS && (free >> (part + n) & 1) == 1) {
                n++;
            }
            return n;
        }

        int runsIn(int g, int n) {
            int found = 0;
            int first = g * layout.blocks * PARTS;
            for (int x = first; x < first + layout.blocks * PARTS; x++) {
                if (runAt(x) == n) {
                    found++;
                }
            }
            return found;
        }

        private int shortestRunIn(int g, int n) {
            int best = NONE;
            int shortest = PARTS;
            int first = g * layout.blocks * PARTS;
            for (int x = first; x < first + layout.blocks * PARTS; x++) {
                int run = runAt(x);
                if (run >= n && run < shortest) {
                    best = x;
                    shortest = run;
                }
            }
            return best;
        }

        private int freeBlockIn(int g, int place) {
            for (int j = 0; j < layout.blocks; j++) {
                int p = place + j < layout.blocks ? place + j : place + j - layout.blocks;
                int b = g * layout.blocks + p;
                if (isFreeBlock(b)) {
                    return b;
                }
            }
            return NONE;
        }

        /** TAKING a BLOCK: its number; NONE. */
        int takeBlock(int g, int place) {
            for (int j = 0; j < layout.groups; j++) {
                int b = freeBlockIn(layout.behind(g, j), j == 0 ? place : 0);
                if (b != NONE) {
                    put(b * PARTS, PARTS, false);
                    return b;
                }
            }
            return NONE;
        }

        /** TAKING a RUN: its first FRAGMENT; NONE. */
        int takeRun(int g, int n) {
            for (int j = 0; j < layout.groups; j++) {
                int h = layout.behind(g, j);
                int x = shortestRunIn(h, n);
                if (x == NONE) {
                    int b = freeBlockIn(h, 0);
                    x = b == NONE ? NONE : b * PARTS;
                }
                if (x != NONE) {
                    put(x, n, false);
                    return x;
                }
            }
            return NONE;
        }

        /** The GROUP that a long FILE is led on to, whose last BLOCK is in g. */
        int groupOnward(int g) {
            int all = freeBlocks();
            for (int j = 1; j < layout.groups; j++) {
                int h = layout.behind(g, j);
                if (freeBlocksIn(h) * layout.groups >= all) {
                    return h;
                }
            }
            // When no other one has so many, g has them.
            return g;
        }

        /** The first BLOCK of q FREE ones in GROUP g that lie as a gathered FILE does; NONE. */
        int gatheredRowIn(int g, int q) {
            int far = 1 + layout.step;
            for (int p = 0; p + (q - 1) * far < layout.blocks; p++) {
                int n = 0;
                while (n < q && isFreeBlock(g * layout.blocks + p + n * far)) {
                    n++;
                }
                if (n == q) {
                    return g * layout.blocks + p;
                }
            }
            return NONE;
        }
    }

    /** All INODES, what each is and what it has. */
    private static final class Inodes {
        private final Layout layout;
        private final int[] kind = new int[MOST_INODES];
        private final int[] parent = new int[MOST_INODES];
        private final int[] name = new int[MOST_INODES];
        private final int[] size = new int[MOST_INODES];
        private final int[] tail = new int[MOST_INODES];
        private final int[] blocks = new int[MOST_INODES * MOST_FILE_BLOCKS];

        Inodes(Layout layout) {
            this.layout = layout;
        }

        void copyFrom(Inodes other) {
            System.arraycopy(other.kind, 0, kind, 0, MOST_INODES);
            System.arraycopy(other.parent, 0, parent, 0, MOST_INODES);
            System.arraycopy(other.name, 0, name, 0, MOST_INODES);
            System.arraycopy(other.size, 0, size, 0, MOST_INODES);
            System.arraycopy(other.tail, 0, tail, 0, MOST_INODES);
            System.arraycopy(other.blocks, 0, blocks, 0, MOST_INODES * MOST_FILE_BLOCKS);
        }

        void clear() {
            for (int i = 0; i < MOST_INODES; i++) {
                become(i, NOTHING, NONE, NONE);
            }
        }

        /** An INODE without SIZE. */
        void become(int i, int newKind, int newParent, int newName) {
            if (i >= 0 && i < MOST_INODES) {
                kind[i] = newKind;
            }
            setEntry(i, newParent, newName);
            setSize(i, 0, NONE);
        }

        void setEntry(int i, int newParent, int newName) {
            if (i >= 0 && i < MOST_INODES) {
                parent[i] = newParent;
                name[i] = newName;
            }
        }

        void setSize(int i, int newSize, int newTail) {
            if (i >= 0 && i < MOST_INODES) {
                size[i] = newSize;
                tail[i] = newTail;
            }
        }

        /** It may lie beyond the SIZE: then it counts as soon as the SIZE reaches it. */
        void setBlock(int i, int k, int b) {
            if (i >= 0 && i < MOST_INODES && k >= 0 && k < MOST_FILE_BLOCKS) {
                blocks[i * MOST_FILE_BLOCKS + k] = b;
            }
        }

        int blockAt(int i, int k) {
            if (i < 0 || i >= MOST_INODES || k < 0 || k >= MOST_FILE_BLOCKS) {
                return NONE;
            }
            return blocks[i * MOST_FILE_BLOCKS + k];
        }

        boolean isNumber(int i) {
            return i >= 0 && i < layout.allInodes();
        }

        int kindOf(int i) {
            return i >= 0 && i < MOST_INODES ? kind[i] : NOTHING;
        }

        int parentOf(int i) {
            return i >= 0 && i < MOST_INODES ? parent[i] : NONE;
        }

        int nameOf(int i) {
            return i >= 0 && i < MOST_INODES ? name[i] : NONE;
        }

        int sizeOf(int i) {
            return i >= 0 && i < MOST_INODES ? size[i] : 0;
        }

        int blocksOf(int i) {
            return i >= 0 && i < MOST_INODES ? size[i] / PARTS : 0;
        }

        int tailOf(int i) {
            return i >= 0 && i < MOST_INODES ? tail[i] : NONE;
        }

        int tailLengthOf(int i) {
            return i >= 0 && i < MOST_INODES ? size[i] % PARTS : 0;
        }

        int howManyIn(int g, int wanted) {
            int n = 0;
            for (int p = 0; p < layout.inodes; p++) {
                if (kindOf(g * layout.inodes + p) == wanted) {
                    n++;
                }
            }
            return n;
        }

        int howMany(int wanted) {
            int n = 0;
            for (int i = 0; i < layout.allInodes(); i++) {
                if (kindOf(i) == wanted) {
                    n++;
                }
            }
            return n;
        }

        int howManyAreThere() {
            return layout.allInodes() - howMany(NOTHING);
        }

        int sizesOfAll() {
            int sum = 0;
            for (int i = 0; i < layout.allInodes(); i++) {
                sum += sizeOf(i);
            }
            return sum;
        }

        int firstNothingIn(int g) {
            for (int p = 0; p < layout.inodes; p++) {
                int i = g * layout.inodes + p;
                if (kindOf(i) == NOTHING) {
                    return i;
                }
            }
            return NONE;
        }

        /** The INODE with that NAME in DIRECTORY d; NONE. */
        int named(int d, int wanted) {
            for (int i = 0; i < layout.allInodes(); i++) {
                if (kindOf(i) != NOTHING && parentOf(i) == d && nameOf(i) == wanted) {
                    return i;
                }
            }
            return NONE;
        }

        boolean hasOthers(int d) {
            for (int i = 0; i < layout.allInodes(); i++) {
                if (kindOf(i) != NOTHING && parentOf(i) == d) {
                    return true;
                }
            }
            return false;
        }

        /** How far below INODE above (or 0: it itself) INODE i lies; NONE: it does not. */
        int depthBelow(int above, int i) {
            int at = i;
            for (int far = 0; far < MOST_INODES; far++) {
                if (at == above) {
                    return far;
                }
                if (at < 0) {
                    return NONE;
                }
                at = parentOf(at);
            }
            return NONE;
        }

        int ownerOf(int x) {
            for (int i = 0; i < layout.allInodes(); i++) {
                if (tailLengthOf(i) > 0 && x >= tailOf(i) && x < tailOf(i) + tailLengthOf(i)) {
                    return i;
                }
                for (int k = 0; k < blocksOf(i); k++) {
                    if (x / PARTS == blockAt(i, k)) {
                        return i;
                    }
                }
            }
            return NONE;
        }
    }

    /** All that a text tells and deeds change, and all that an IMAGE keeps. */
    private static final class Volume {
        private final Layout layout = new Layout();
        private final FreeMap map = new FreeMap(layout);
        private final FreeMap mapDue = new FreeMap(layout);
        private final Inodes inodes = new Inodes(layout);
        private int extended;
        private int moved;

        void startAnew(int[] rules) {
            layout.set(rules);
            inodes.clear();
            inodes.become(ROOT, DIRECTORY, NONE, NONE);
            inodes.setSize(ROOT, 1, 0);
            mendMap();
            extended = 0;
            moved = 0;
        }

        void copyFrom(Volume other) {
            layout.copyFrom(other.layout);
            map.copyFrom(other.map);
            inodes.copyFrom(other.inodes);
            extended = other.extended;
            moved = other.moved;
        }

        /** What INODE i has becomes FREE, or not FREE, by a map: its BLOCKS from k on and its TAIL. */
        void putAllOf(int i, int fromBlock, FreeMap where, boolean free) {
            for (int k = fromBlock; k < inodes.blocksOf(i); k++) {
                where.put(inodes.blockAt(i, k) * PARTS, PARTS, free);
            }
            where.put(inodes.tailOf(i), inodes.tailLengthOf(i), free);
        }

        private void findMapDue() {
            mapDue.freeAll();
            for (int i = 0; i < layout.allInodes(); i++) {
                putAllOf(i, 0, mapDue, false);
            }
        }

        boolean isSpoilt() {
            findMapDue();
            for (int b = 0; b < MOST_BLOCKS; b++) {
                if (map.bitsOf(b) != mapDue.bitsOf(b)) {
                    return true;
                }
            }
            return false;
        }

        /** How many FRAGMENTS are wrongly FREE, or wrongly not. */
        int wrongs(boolean free) {
            findMapDue();
            int n = 0;
            for (int b = 0; b < MOST_BLOCKS; b++) {
                int wrong = free ? map.bitsOf(b) & ~mapDue.bitsOf(b) : mapDue.bitsOf(b) & ~map.bitsOf(b);
                n += Integer.bitCount(wrong);
            }
            return n;
        }

        int firstWrong() {
            findMapDue();
            for (int x = 0; x < layout.allBlocks() * PARTS; x++) {
                if (map.isFree(x) != mapDue.isFree(x)) {
                    return x;
                }
            }
            return NONE;
        }

        void mendMap() {
            findMapDue();
            map.copyFrom(mapDue);
        }

        int groupFor(int d, int kind) {
            return kind == DIRECTORY ? groupForDirectory() : groupForFile(d);
        }

        private int groupForDirectory() {
            int best = NONE;
            int fewest = 0;
            int all = inodes.howMany(NOTHING);
            for (int g = 0; g < layout.groups; g++) {
                int here = inodes.howManyIn(g, NOTHING);
                int directories = inodes.howManyIn(g, DIRECTORY);
                boolean fits = here > 0 && here * layout.groups >= all;
                if (fits && (best == NONE || directories < fewest)) {
                    best = g;
                    fewest = directories;
                }
            }
            return best;
        }

        private int groupForFile(int d) {
            int near = layout.groupOfInode(d);
            for (int j = 0; j < layout.groups; j++) {
                int g = layout.behind(near, j);
                if (inodes.firstNothingIn(g) != NONE) {
                    return g;
                }
            }
            return NONE;
        }

        /** The PAIRS of an INODE, or of these only those that FOLLOW. */
        int pairsOf(int i, boolean following) {
            int n = 0;
            for (int k = 1; k < inodes.blocksOf(i); k++) {
                if (!layout.leadsOn(k) && (!following || follows(inodes.blockAt(i, k - 1), inodes.blockAt(i, k)))) {
                    n++;
                }
            }
            return n;
        }

        private boolean follows(int before, int b) {
            return b == layout.groupOfBlock(before) * layout.blocks + layout.placeBehind(before);
        }

        int pairsOfAll(boolean following) {
            int n = 0;
            for (int i = 0; i < layout.allInodes(); i++) {
                n += pairsOf(i, following);
            }
            return n;
        }
    }

    /** What changes a VOLUME; each answers as the call of the document's face does. */
    private static final class Deeds {
        private final Volume volume;
        private final Layout layout;
        private final FreeMap map;
        private final Inodes inodes;
        // A FILE that GROWS may find no room when some of it is TAKEN already.
        private final FreeMap mapBefore;

        Deeds(Volume volume) {
            this.volume = volume;
            layout = volume.layout;
            map = volume.map;
            inodes = volume.inodes;
            mapBefore = new FreeMap(volume.layout);
        }

        int makeInode(int d, int name, int kind) {
            if (inodes.kindOf(d) != DIRECTORY || !isName(name) || (kind != DIRECTORY && kind != FILE)) {
                return BAD;
            }
            if (volume.isSpoilt() || inodes.named(d, name) != NONE) {
                return STATE;
            }
            int g = volume.groupFor(d, kind);
            if (g == NONE || (kind == DIRECTORY && lacksRoomFor(1))) {
                return FULL;
            }
            int i = inodes.firstNothingIn(g);
            int tail = kind == DIRECTORY ? map.takeRun(g, 1) : NONE;
            inodes.become(i, kind, d, name);
            inodes.setSize(i, kind == DIRECTORY ? 1 : 0, tail);
            return i;
        }

        private boolean lacksRoomFor(int n) {
            return map.freeFragments() - n < layout.reserve;
        }

        int growFile(int i, int n) {
            if (inodes.kindOf(i) != FILE || n < 1 || n > MOST_SIZE) {
                return BAD;
            }
            if (volume.isSpoilt()) {
                return STATE;
            }
            int size = inodes.sizeOf(i) + n;
            if (size > MOST_SIZE || lacksRoomFor(n)) {
                return FULL;
            }
            mapBefore.copyFrom(map);
            boolean laid = size / PARTS == inodes.blocksOf(i) ? layTail(i, size) : layBlocks(i, size);
            if (!laid) {
                map.copyFrom(mapBefore);
                return FULL;
            }
            return size;
        }

        /** To a SIZE of as many BLOCKS; false: a RUN could not be TAKEN. */
        private boolean layTail(int i, int size) {
            int old = inodes.tailLengthOf(i);
            int tail = inodes.tailOf(i);
            int more = size % PARTS - old;
            boolean reaches = old > 0 && tail % PARTS + old + more <= PARTS;
            if (reaches && map.areFree(tail + old, more)) {
                map.put(tail + old, more, false);
                volume.extended++;
                inodes.setSize(i, size, tail);
                return true;
            }
            int run = map.takeRun(groupForTail(i, inodes.blocksOf(i)), size % PARTS);
            if (run == NONE) {
                return false;
            }
            if (old > 0) {
                map.put(tail, old, true);
                volume.moved++;
            }
            inodes.setSize(i, size, run);
            return true;
        }

        /** To a SIZE of more BLOCKS; false: one, or a RUN, could not be TAKEN. */
        private boolean layBlocks(int i, int size) {
            int old = inodes.tailLengthOf(i);
            int tail = inodes.tailOf(i);
            int first = inodes.blocksOf(i);
            boolean stays = old > 0 && tail % PARTS == 0 && map.areFree(tail + old, PARTS - old);
            if (stays) {
                map.put(tail, PARTS, false);
                inodes.setBlock(i, first, tail / PARTS);
            } else if (!layBlock(i, first)) {
                return false;
            } else {
                map.put(tail, old, true);
            }
            for (int k = first + 1; k < size / PARTS; k++) {
                if (!layBlock(i, k)) {
                    return false;
                }
            }
            int run = NONE;
            if (size % PARTS > 0) {
                run = map.takeRun(groupForTail(i, size / PARTS), size % PARTS);
                if (run == NONE) {
                    return false;
                }
            }
            volume.extended += stays ? 1 : 0;
            volume.moved += old > 0 && !stays ? 1 : 0;
            inodes.setSize(i, size, run);
            return true;
        }

        private boolean layBlock(int i, int k) {
            int before = inodes.blockAt(i, k - 1);
            int g = k == 0 ? layout.groupOfInode(i) : layout.groupOfBlock(before);
            int place = 0;
            if (k > 0 && layout.leadsOn(k)) {
                g = map.groupOnward(g);
            } else if (k > 0) {
                place = layout.placeBehind(before);
            }
            int b = map.takeBlock(g, place);
            inodes.setBlock(i, k, b);
            return b != NONE;
        }

        /** Near which GROUP the TAIL behind so many BLOCKS is TAKEN. */
        private int groupForTail(int i, int blocks) {
            if (blocks == 0) {
                return layout.groupOfInode(i);
            }
            return layout.groupOfBlock(inodes.blockAt(i, blocks - 1));
        }

        int shrinkFile(int i, int n) {
            if (inodes.kindOf(i) != FILE || n < 1 || n > inodes.sizeOf(i)) {
                return BAD;
            }
            if (volume.isSpoilt()) {
                return STATE;
            }
            int size = inodes.sizeOf(i) - n;
            int blocks = size / PARTS;
            int tail = NONE;
            if (size % PARTS > 0) {
                tail = blocks < inodes.blocksOf(i) ? inodes.blockAt(i, blocks) * PARTS : inodes.tailOf(i);
            }
            volume.putAllOf(i, blocks, map, true);
            map.put(tail, size % PARTS, false);
            inodes.setSize(i, size, tail);
            return size;
        }

        int removeInode(int i) {
            if (inodes.kindOf(i) == NOTHING) {
                return BAD;
            }
            if (volume.isSpoilt() || i == ROOT || inodes.hasOthers(i)) {
                return STATE;
            }
            int size = inodes.sizeOf(i);
            volume.putAllOf(i, 0, map, true);
            inodes.become(i, NOTHING, NONE, NONE);
            return size;
        }

        int moveInode(int i, int d, int name) {
            if (inodes.kindOf(i) == NOTHING || inodes.kindOf(d) != DIRECTORY || !isName(name)) {
                return BAD;
            }
            int there = inodes.named(d, name);
            if (volume.isSpoilt() || i == ROOT || inodes.depthBelow(i, d) != NONE || (there != NONE && there != i)) {
                return STATE;
            }
            inodes.setEntry(i, d, name);
            return inodes.depthBelow(ROOT, i);
        }

        int gatherFile(int i) {
            if (inodes.kindOf(i) != FILE) {
                return BAD;
            }
            int q = inodes.blocksOf(i);
            if (volume.isSpoilt() || q < 2) {
                return STATE;
            }
            int near = layout.groupOfInode(i);
            for (int j = 0; j < layout.groups; j++) {
                int b = map.gatheredRowIn(layout.behind(near, j), q);
                if (b != NONE) {
                    gatherAt(i, b);
                    return volume.pairsOf(i, true);
                }
            }
            return FULL;
        }

        private void gatherAt(int i, int firstBlock) {
            int q = inodes.blocksOf(i);
            for (int k = 0; k < q; k++) {
                int b = firstBlock + k * (1 + layout.step);
                map.put(inodes.blockAt(i, k) * PARTS, PARTS, true);
                map.put(b * PARTS, PARTS, false);
                inodes.setBlock(i, k, b);
            }
            volume.moved += q;
        }
    }
}
