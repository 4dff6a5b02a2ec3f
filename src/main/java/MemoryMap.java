import java.util.Arrays;

/**
 * A map of memory: regions and the sections placed in them, functions and how deep their stacks
 * get, and blocks that are kept in two copies.
 */
public final class MemoryMap {
    private static final int UNKNOWN = -1;
    private static final int OUT_OF_RANGE = -2;
    private static final int WRONG_STATE = -3;
    private static final int NO_ROOM = -4;

    private static final int DONE = 1;
    private static final int NOWHERE = -1;
    private static final int RING = -1;

    private static final int MAX_SIZE = 65536;
    private static final int USUAL_SIZE = 4096;
    private static final int MAX_RIGHTS = 7;
    private static final int MAX_REGIONS = 16;
    private static final int MAX_SECTIONS = 40;
    private static final int MAX_KEPT = 50;
    private static final int FUNCTIONS = 30;
    private static final int MAX_STACK = 1000000;
    private static final int MAX_BLOCKS = 20;
    private static final int MAX_OCTETS = 32;
    private static final int SUM_FACTOR = -1028477379;

    private final int size;
    private final Regions regions = new Regions();
    private final Sections sections = new Sections();
    private final Taken taken = new Taken();
    private final int[] trial = new int[MAX_SECTIONS];
    private final Placements placements = new Placements();
    private final Functions functions = new Functions();
    private final Block[] blocks = new Block[MAX_BLOCKS];
    private int blockCount;

    public MemoryMap(long size) {
        this.size = isWithin(size, 1, MAX_SIZE) ? (int) size : USUAL_SIZE;
    }

    public int region(long from, long n, int rights) {
        // Written without from + n, which could wrap around.
        boolean inside = n >= 1 && from >= 0 && from <= size - n;
        if (!inside || !isWithin(rights, 0, MAX_RIGHTS)) {
            return OUT_OF_RANGE;
        }
        int start = (int) from;
        int end = start + (int) n;
        if (regions.overlap(start, end)) {
            return WRONG_STATE;
        }
        return regions.add(start, end, rights);
    }

    public int section(long n, long align, int kind) throws ArithmeticException {
        if (!isWithin(n, 0, MAX_SIZE) || !isWithin(align, 0, MAX_SIZE)
                || !isWithin(kind, 0, MAX_RIGHTS)) {
            return OUT_OF_RANGE;
        }
        if (sections.count >= MAX_SECTIONS) {
            return NO_ROOM;
        }
        if (align == 0) {
            throw new ArithmeticException("an alignment of 0 divides no address");
        }
        return sections.add((int) n, (int) align, kind);
    }

    public int place() {
        taken.clear();
        for (int i = 0; i < sections.count; i++) {
            int index = sections.greatestFirst[i];
            int start = takeSpaceFor(index);
            if (start == NOWHERE) {
                return -(index + 1);
            }
            trial[index] = start;
        }
        placements.add(trial, sections.count);
        return DONE;
    }

    public long at(int section) {
        if (!isWithin(section, 1, sections.count)) {
            return UNKNOWN;
        }
        if (section > placements.lastCount) {
            return WRONG_STATE;
        }
        return placements.last[section - 1];
    }

    public int call(int from, int to, long stack) {
        if (!isWithin(from, 1, FUNCTIONS) || !isWithin(to, 0, FUNCTIONS)) {
            return UNKNOWN;
        }
        if (!isWithin(stack, 0, MAX_STACK)) {
            return OUT_OF_RANGE;
        }
        functions.stacks[from] = (int) stack;
        if (to != 0) {
            functions.addCall(from, to);
        }
        return functions.countCalls(from);
    }

    public long depth(int entry) {
        if (!isWithin(entry, 1, FUNCTIONS)) {
            return OUT_OF_RANGE;
        }
        return functions.depthFrom(entry);
    }

    public int block(long n) {
        if (!isWithin(n, 1, MAX_OCTETS)) {
            return OUT_OF_RANGE;
        }
        if (blockCount >= MAX_BLOCKS) {
            return NO_ROOM;
        }
        blocks[blockCount] = new Block((int) n);
        blockCount++;
        return blockCount;
    }

    public int write(int block, int i, byte b) {
        Block found = blockNumbered(block);
        if (found == null) {
            return UNKNOWN;
        }
        if (!found.hasOctet(i)) {
            return OUT_OF_RANGE;
        }
        found.first.setOctet(i, b);
        found.second.setOctet(i, b);
        return DONE;
    }

    public int poke(int block, int copy, int i, int mask) {
        Block found = blockNumbered(block);
        if (found == null || !isWithin(copy, 1, 2)) {
            return UNKNOWN;
        }
        if (!found.hasOctet(i)) {
            return OUT_OF_RANGE;
        }
        return copy == 1 ? found.first.flip(i, mask) : found.second.flip(i, mask);
    }

    public int read(int block) {
        Block found = blockNumbered(block);
        if (found == null) {
            return UNKNOWN;
        }
        return found.repair();
    }

    public byte cell(long address) throws ArrayIndexOutOfBoundsException {
        if (address < 0 || address >= size) {
            throw new ArrayIndexOutOfBoundsException("no such address");
        }
        for (int i = 0; i < placements.lastCount; i++) {
            int start = placements.last[i];
            if (address >= start && address < start + sections.lengths[i]) {
                return (byte) (i + 1);
            }
        }
        return NOWHERE;
    }

    public int moved(int before) {
        if (!isWithin(before, 1, placements.keptCount)) {
            return UNKNOWN;
        }
        return placements.countMovedSince(before - 1);
    }

    private int takeSpaceFor(int index) {
        int length = sections.lengths[index];
        if (length == 0) {
            return 0;
        }
        for (int r = 0; r < regions.count; r++) {
            if (regions.allow(r, sections.kinds[index])) {
                int start = taken.leastFree(regions.starts[r], length, sections.aligns[index]);
                if (start + length <= regions.ends[r]) {
                    taken.add(start, start + length);
                    return start;
                }
            }
        }
        return NOWHERE;
    }

    private Block blockNumbered(int number) {
        return isWithin(number, 1, blockCount) ? blocks[number - 1] : null;
    }

    private static boolean isWithin(long value, long least, long greatest) {
        return value >= least && value <= greatest;
    }

    /** The regions; number r + 1 stands at index r, and its end is the address behind it. */
    private static final class Regions {
        private final int[] starts = new int[MAX_REGIONS];
        private final int[] ends = new int[MAX_REGIONS];
        private final int[] rights = new int[MAX_REGIONS];
        private int count;

        private boolean overlap(int start, int end) {
            for (int r = 0; r < count; r++) {
                if (start < ends[r] && starts[r] < end) {
                    return true;
                }
            }
            return false;
        }

        private boolean allow(int r, int kind) {
            return (rights[r] & kind) == kind;
        }

        private int add(int start, int end, int newRights) {
            if (count >= MAX_REGIONS) {
                return NO_ROOM;
            }
            starts[count] = start;
            ends[count] = end;
            rights[count] = newRights;
            count++;
            return count;
        }
    }

    /** The sections; number s + 1 stands at index s. */
    private static final class Sections {
        private final int[] lengths = new int[MAX_SECTIONS];
        private final int[] aligns = new int[MAX_SECTIONS];
        private final int[] kinds = new int[MAX_SECTIONS];
        private final int[] greatestFirst = new int[MAX_SECTIONS];
        private int count;

        private int add(int length, int align, int kind) {
            if (count >= MAX_SECTIONS) {
                return NO_ROOM;
            }
            lengths[count] = length;
            aligns[count] = align;
            kinds[count] = kind;
            enterInOrder(count);
            count++;
            return count;
        }

        /** The newest section has the greatest number, so it goes behind all of its length. */
        private void enterInOrder(int newest) {
            int position = newest;
            while (position > 0 && lengths[greatestFirst[position - 1]] < lengths[newest]) {
                greatestFirst[position] = greatestFirst[position - 1];
                position--;
            }
            greatestFirst[position] = newest;
        }
    }

    /** What the sections before have taken while one placing is tried, by address. */
    private static final class Taken {
        private final int[] starts = new int[MAX_SECTIONS];
        private final int[] ends = new int[MAX_SECTIONS];
        private int count;

        private void clear() {
            count = 0;
        }

        /** The least aligned address with so many free octets, as if the region had no end. */
        private int leastFree(int from, int length, int align) {
            int start = alignedUp(from, align);
            for (int i = 0; i < count && starts[i] < start + length; i++) {
                if (ends[i] > start) {
                    start = alignedUp(ends[i], align);
                }
            }
            return start;
        }

        private void add(int start, int end) {
            if (count >= MAX_SECTIONS) {
                return;
            }
            int position = count;
            while (position > 0 && starts[position - 1] > start) {
                starts[position] = starts[position - 1];
                ends[position] = ends[position - 1];
                position--;
            }
            starts[position] = start;
            ends[position] = end;
            count++;
        }

        private static int alignedUp(int address, int align) {
            // No section has an alignment below 1, but a divisor is looked at where it divides.
            return align < 1 ? address : (address + align - 1) / align * align;
        }
    }

    /** Where the sections came to, in the last placement and in the first ones, which are kept. */
    private static final class Placements {
        private final int[] last = new int[MAX_SECTIONS];
        private int lastCount;
        private final int[][] kept = new int[MAX_KEPT][MAX_SECTIONS];
        private final int[] sectionCounts = new int[MAX_KEPT];
        private int keptCount;

        private void add(int[] starts, int count) {
            System.arraycopy(starts, 0, last, 0, count);
            lastCount = count;
            if (keptCount < MAX_KEPT) {
                System.arraycopy(starts, 0, kept[keptCount], 0, count);
                sectionCounts[keptCount] = count;
                keptCount++;
            }
        }

        /** Sections are never removed, so all of an earlier placement are in the last one too. */
        private int countMovedSince(int index) {
            int count = 0;
            for (int s = 0; s < sectionCounts[index]; s++) {
                if (kept[index][s] != last[s]) {
                    count++;
                }
            }
            return count;
        }
    }

    /** The functions, each at the index of its number; a set of them is an int with a bit for each. */
    private static final class Functions {
        private final int[] stacks = new int[FUNCTIONS + 1];
        private final int[] called = new int[FUNCTIONS + 1];
        private final int[] depths = new int[FUNCTIONS + 1];

        private void addCall(int from, int to) {
            called[from] |= 1 << to;
        }

        private int countCalls(int from) {
            return Integer.bitCount(called[from]);
        }

        /**
         * A function is settled once all that it calls are, so those from which a ring can be
         * reached never are. Each round settles one more at the least, while any can be.
         */
        private int depthFrom(int entry) {
            int settled = 0;
            for (int round = 0; round < FUNCTIONS && !contains(settled, entry); round++) {
                settled = settleMore(settled);
            }
            return contains(settled, entry) ? depths[entry] : RING;
        }

        private int settleMore(int before) {
            int settled = before;
            for (int f = 1; f <= FUNCTIONS; f++) {
                if (!contains(settled, f) && (called[f] & ~settled) == 0) {
                    depths[f] = stacks[f] + deepestCalled(f);
                    settled |= 1 << f;
                }
            }
            return settled;
        }

        private int deepestCalled(int from) {
            int deepest = 0;
            for (int f = 1; f <= FUNCTIONS; f++) {
                if (contains(called[from], f)) {
                    deepest = Math.max(deepest, depths[f]);
                }
            }
            return deepest;
        }

        private static boolean contains(int set, int f) {
            return (set >> f & 1) == 1;
        }
    }

    /** A block that is kept in two copies. */
    private static final class Block {
        private final int length;
        private final Copy first;
        private final Copy second;

        private Block(int length) {
            this.length = length;
            this.first = new Copy(length);
            this.second = new Copy(length);
        }

        private boolean hasOctet(int i) {
            return isWithin(i, 0, length - 1);
        }

        private int repair() {
            if (first.isGood()) {
                second.become(first);
                return 1;
            }
            if (second.isGood()) {
                first.become(second);
                return 2;
            }
            first.clear();
            second.clear();
            return 0;
        }
    }

    /** One copy of a block's octets, and the sum that was right when they were last written. */
    private static final class Copy {
        private final byte[] octets;
        private int sum;

        private Copy(int length) {
            this.octets = new byte[length];
            this.sum = sumOf(octets);
        }

        private boolean isGood() {
            return sum == sumOf(octets);
        }

        private void setOctet(int i, byte b) {
            octets[i] = b;
            sum = sumOf(octets);
        }

        private int flip(int i, int mask) {
            octets[i] = (byte) (octets[i] ^ mask);
            return octets[i] & 0xff;
        }

        private void become(Copy other) {
            System.arraycopy(other.octets, 0, octets, 0, octets.length);
            sum = other.sum;
        }

        private void clear() {
            Arrays.fill(octets, (byte) 0);
            sum = sumOf(octets);
        }

        private static int sumOf(byte[] octets) {
            int s = 1;
            for (int i = 0; i < octets.length; i++) {
                int mixed = s ^ (octets[i] & 0xff);
                s = (mixed << 5 | mixed >>> 27) * SUM_FACTOR;
            }
            return s;
        }
    }
}
