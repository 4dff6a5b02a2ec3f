import java.util.ArrayList;
import java.util.Arrays;
import java.util.HashSet;
import java.util.List;
import java.util.Set;
import java.util.TreeSet;

/** The document's words in their plainest form, octet by octet, without regard to speed or room. */
final class PlainModel {
    private record Region(long from, long n, int rights) {
    }

    private record Section(int number, long n, long align, int kind) {
    }

    private final long size;
    private final List<Region> regions = new ArrayList<>();
    private final List<Section> sections = new ArrayList<>();
    private final List<long[]> placements = new ArrayList<>();
    private int[] cells;
    private final long[] stacks = new long[31];
    private final List<Set<Integer>> calls = new ArrayList<>();
    private final List<int[][]> blocks = new ArrayList<>();
    private final List<int[]> sums = new ArrayList<>();

    PlainModel(long size) {
        this.size = size >= 1 && size <= 65536 ? size : 4096;
        this.cells = new int[(int) this.size];
        Arrays.fill(cells, -1);
        for (int f = 0; f <= 30; f++) {
            calls.add(new TreeSet<>());
        }
    }

    int region(long from, long n, int rights) {
        if (n < 1 || n > 65536 || from < 0 || from > 65536 || from + n > size || rights < 0 || rights > 7) {
            return -2;
        }
        for (Region other : regions) {
            for (long a = from; a < from + n; a++) {
                if (a >= other.from && a < other.from + other.n) {
                    return -3;
                }
            }
        }
        if (regions.size() == 16) {
            return -4;
        }
        regions.add(new Region(from, n, rights));
        return regions.size();
    }

    int section(long n, long align, int kind) {
        if (n < 0 || n > 65536 || align < 0 || align > 65536 || kind < 0 || kind > 7) {
            return -2;
        }
        if (sections.size() == 40) {
            return -4;
        }
        if (align == 0) {
            throw new ArithmeticException();
        }
        sections.add(new Section(sections.size() + 1, n, align, kind));
        return sections.size();
    }

    int place() {
        List<Section> order = new ArrayList<>(sections);
        order.sort((a, b) -> a.n != b.n ? Long.compare(b.n, a.n) : Integer.compare(a.number, b.number));
        int[] painted = new int[(int) size];
        Arrays.fill(painted, -1);
        long[] starts = new long[sections.size()];
        for (Section section : order) {
            long start = section.n == 0 ? 0 : startOf(section, painted);
            if (start < 0) {
                return -section.number;
            }
            starts[section.number - 1] = start;
            for (long a = start; a < start + section.n; a++) {
                painted[(int) a] = section.number;
            }
        }
        placements.add(starts);
        cells = painted;
        return 1;
    }

    private long startOf(Section section, int[] painted) {
        for (Region region : regions) {
            if ((section.kind & ~region.rights) == 0) {
                for (long a = region.from; a + section.n <= region.from + region.n; a++) {
                    if (a % section.align == 0 && isFree(painted, a, section.n)) {
                        return a;
                    }
                }
            }
        }
        return -1;
    }

    private static boolean isFree(int[] painted, long start, long n) {
        for (long a = start; a < start + n; a++) {
            if (painted[(int) a] != -1) {
                return false;
            }
        }
        return true;
    }

    long at(int section) {
        if (section < 1 || section > sections.size()) {
            return -1;
        }
        if (placements.isEmpty()) {
            return -3;
        }
        long[] last = placements.get(placements.size() - 1);
        return section <= last.length ? last[section - 1] : -3;
    }

    int call(int from, int to, long stack) {
        if (from < 1 || from > 30 || to < 0 || to > 30) {
            return -1;
        }
        if (stack < 0 || stack > 1000000) {
            return -2;
        }
        stacks[from] = stack;
        if (to != 0) {
            calls.get(from).add(to);
        }
        return calls.get(from).size();
    }

    long depth(int entry) {
        if (entry < 1 || entry > 30) {
            return -2;
        }
        return depthOnTheWay(entry, new HashSet<>(), new Long[31]);
    }

    /** What is known of a function that ended its own search holds on every way to it. */
    private long depthOnTheWay(int f, Set<Integer> way, Long[] known) {
        if (known[f] != null) {
            return known[f];
        }
        if (!way.add(f)) {
            return -1;
        }
        long deepest = 0;
        for (int to : calls.get(f)) {
            long depth = depthOnTheWay(to, way, known);
            if (depth < 0) {
                return -1;
            }
            deepest = Math.max(deepest, depth);
        }
        way.remove(f);
        known[f] = stacks[f] + deepest;
        return known[f];
    }

    int block(long n) {
        if (n < 1 || n > 32) {
            return -2;
        }
        if (blocks.size() == 20) {
            return -4;
        }
        blocks.add(new int[2][(int) n]);
        sums.add(new int[] {sum(new int[(int) n]), sum(new int[(int) n])});
        return blocks.size();
    }

    int write(int block, int i, byte b) {
        if (block < 1 || block > blocks.size()) {
            return -1;
        }
        int[][] copies = blocks.get(block - 1);
        if (i < 0 || i >= copies[0].length) {
            return -2;
        }
        for (int c = 0; c < 2; c++) {
            copies[c][i] = b < 0 ? b + 256 : b;
            sums.get(block - 1)[c] = sum(copies[c]);
        }
        return 1;
    }

    int poke(int block, int copy, int i, int mask) {
        if (block < 1 || block > blocks.size() || copy < 1 || copy > 2) {
            return -1;
        }
        int[] octets = blocks.get(block - 1)[copy - 1];
        if (i < 0 || i >= octets.length) {
            return -2;
        }
        octets[i] ^= mask & 255;
        return octets[i];
    }

    int read(int block) {
        if (block < 1 || block > blocks.size()) {
            return -1;
        }
        int[][] copies = blocks.get(block - 1);
        int[] both = sums.get(block - 1);
        for (int c = 0; c < 2; c++) {
            if (both[c] == sum(copies[c])) {
                copies[1 - c] = copies[c].clone();
                both[1 - c] = both[c];
                return c + 1;
            }
        }
        for (int c = 0; c < 2; c++) {
            copies[c] = new int[copies[c].length];
            both[c] = sum(copies[c]);
        }
        return 0;
    }

    private static int sum(int[] octets) {
        int s = 1;
        for (int b : octets) {
            s = Integer.rotateLeft(s ^ b, 5) * -1028477379;
        }
        return s;
    }

    byte cell(long address) {
        if (address < 0 || address >= size) {
            throw new ArrayIndexOutOfBoundsException();
        }
        return (byte) cells[(int) address];
    }

    int moved(int before) {
        if (before < 1 || before > 50 || before > placements.size()) {
            return -1;
        }
        long[] then = placements.get(before - 1);
        long[] last = placements.get(placements.size() - 1);
        int count = 0;
        for (int s = 0; s < then.length; s++) {
            if (then[s] != last[s]) {
                count++;
            }
        }
        return count;
    }
}
