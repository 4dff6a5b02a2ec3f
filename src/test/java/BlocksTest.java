import java.util.HashMap;
import java.util.Map;

/** Promises 8 to 11: block, write, poke, read. */
public final class BlocksTest {
    public static void main(String[] args) {
        blocksAreNumbered();
        blocksThatAreRefused();
        newBlocksAreZeroAndGood();
        writes();
        writesThatAreRefused();
        writeRenewsTheSumsOfWhatIsThere();
        pokes();
        pokesThatAreRefused();
        reads();
        readsThatAreRefused();
        blocksAreApart();
        everyPositionIsInTheSum();
        orderIsInTheSum();
        sumsThatAreTheSame();
        Check.end();
    }

    private static int octet(MemoryMap map, int block, int copy, int i) {
        return map.poke(block, copy, i, 0);
    }

    private static void octetsAre(String what, MemoryMap map, int block, int copy, int... due) {
        for (int i = 0; i < due.length; i++) {
            Check.same(what + ", copy " + copy + ", octet " + i, octet(map, block, copy, i), due[i]);
        }
        Check.same(what + ", no octet more", octet(map, block, copy, due.length), -2);
    }

    private static void blocksAreNumbered() {
        MemoryMap map = new MemoryMap(1);
        for (int b = 1; b <= 20; b++) {
            Check.same("block " + b, map.block(b), b);
            Check.same("its last octet", octet(map, b, 2, b - 1), 0);
            Check.same("behind it", octet(map, b, 2, b), -2);
        }
        Check.same("a 21st", map.block(1), -4);
        Check.same("a 21st outside a range", map.block(33), -2);
        Check.same("no 21st", map.read(21), -1);
    }

    private static void blocksThatAreRefused() {
        MemoryMap map = new MemoryMap(1);
        long[] outside = {0, -1, 33, 4294967297L, Long.MIN_VALUE, Long.MAX_VALUE};
        for (long n : outside) {
            Check.same("block(" + n + ")", map.block(n), -2);
        }
        Check.same("none was made", map.read(1), -1);
        Check.same("the longest", map.block(32), 1);
        Check.same("the shortest", map.block(1), 2);
    }

    private static void newBlocksAreZeroAndGood() {
        MemoryMap map = new MemoryMap(1);
        map.block(3);
        octetsAre("new", map, 1, 1, 0, 0, 0);
        octetsAre("new", map, 1, 2, 0, 0, 0);
        Check.same("copy 1 is good", map.read(1), 1);
        map.poke(1, 1, 0, 1);
        Check.same("copy 2 is good", map.read(1), 2);
    }

    private static void writes() {
        MemoryMap map = new MemoryMap(1);
        map.block(3);
        Check.same("write", map.write(1, 0, (byte) 127), 1);
        Check.same("write", map.write(1, 1, (byte) -128), 1);
        Check.same("write", map.write(1, 2, (byte) -1), 1);
        octetsAre("written", map, 1, 1, 127, 128, 255);
        octetsAre("written", map, 1, 2, 127, 128, 255);
        Check.same("good", map.read(1), 1);
        map.poke(1, 1, 2, 1);
        Check.same("copy 2 is good too", map.read(1), 2);
        octetsAre("repaired", map, 1, 1, 127, 128, 255);
        Check.same("the same again", map.write(1, 2, (byte) -1), 1);
    }

    private static void writesThatAreRefused() {
        MemoryMap map = new MemoryMap(1);
        map.block(3);
        int[] none = {0, -1, 2, 20, 21, Integer.MIN_VALUE, Integer.MAX_VALUE};
        for (int block : none) {
            Check.same("block " + block, map.write(block, 0, (byte) 1), -1);
            Check.same("block " + block + " comes first", map.write(block, 99, (byte) 1), -1);
        }
        int[] outside = {-1, 3, 32, Integer.MIN_VALUE, Integer.MAX_VALUE};
        for (int i : outside) {
            Check.same("octet " + i, map.write(1, i, (byte) 1), -2);
        }
        octetsAre("nothing was written", map, 1, 1, 0, 0, 0);
        map.poke(1, 1, 0, 1);
        map.poke(1, 2, 0, 1);
        map.write(1, 3, (byte) 1);
        Check.same("a refused one renews no sum", map.read(1), 0);
    }

    private static void writeRenewsTheSumsOfWhatIsThere() {
        MemoryMap map = new MemoryMap(1);
        map.block(2);
        map.poke(1, 1, 0, 5);
        map.poke(1, 2, 0, 6);
        map.write(1, 1, (byte) 9);
        octetsAre("poked and written", map, 1, 1, 5, 9);
        octetsAre("poked and written", map, 1, 2, 6, 9);
        map.poke(1, 1, 0, 255);
        Check.same("copy 2 is good with its own octets", map.read(1), 2);
        octetsAre("as copy 2", map, 1, 1, 6, 9);
        map.poke(1, 1, 0, 5);
        map.poke(1, 2, 0, 6);
        map.write(1, 1, (byte) 9);
        Check.same("copy 1 is good with its own octets", map.read(1), 1);
        octetsAre("as copy 1", map, 1, 2, 3, 9);
        map.poke(1, 1, 0, 1);
        Check.same("copy 2 has copy 1's sum", map.read(1), 2);
        octetsAre("as copy 2", map, 1, 1, 3, 9);
    }

    private static void pokes() {
        MemoryMap map = new MemoryMap(1);
        map.block(3);
        Check.same("poke", map.poke(1, 1, 2, 129), 129);
        Check.same("xor", map.poke(1, 1, 2, 3), 130);
        Check.same("lowest 8 bits", map.poke(1, 1, 2, 0x7fffff00), 130);
        Check.same("lowest 8 bits of -1", map.poke(1, 1, 2, -1), 125);
        octetsAre("copy 1", map, 1, 1, 0, 0, 125);
        octetsAre("copy 2 is as before", map, 1, 2, 0, 0, 0);
        Check.same("poked back", map.poke(1, 1, 2, 125), 0);
        Check.same("is good again", map.read(1), 1);
        Check.same("copy 2", map.poke(1, 2, 1, 256 + 7), 7);
        octetsAre("copy 1 is as before", map, 1, 1, 0, 0, 0);
        octetsAre("copy 2", map, 1, 2, 0, 7, 0);
    }

    private static void pokesThatAreRefused() {
        MemoryMap map = new MemoryMap(1);
        map.block(3);
        int[] noBlock = {0, -1, 2, 20, 21, Integer.MIN_VALUE, Integer.MAX_VALUE};
        for (int block : noBlock) {
            Check.same("block " + block, map.poke(block, 1, 0, 1), -1);
        }
        int[] noCopy = {0, -1, 3, Integer.MIN_VALUE, Integer.MAX_VALUE};
        for (int copy : noCopy) {
            Check.same("copy " + copy, map.poke(1, copy, 0, 1), -1);
            Check.same("copy " + copy + " comes first", map.poke(1, copy, 3, 1), -1);
        }
        int[] outside = {-1, 3, 32, Integer.MIN_VALUE, Integer.MAX_VALUE};
        for (int i : outside) {
            Check.same("octet " + i + " of copy 1", map.poke(1, 1, i, 1), -2);
            Check.same("octet " + i + " of copy 2", map.poke(1, 2, i, 1), -2);
        }
        octetsAre("nothing was poked", map, 1, 1, 0, 0, 0);
        octetsAre("nothing was poked", map, 1, 2, 0, 0, 0);
    }

    private static void reads() {
        MemoryMap map = new MemoryMap(1);
        map.block(2);
        map.write(1, 0, (byte) 11);
        map.write(1, 1, (byte) 22);
        map.poke(1, 2, 0, 255);
        Check.same("the first is good", map.read(1), 1);
        octetsAre("the second becomes the same", map, 1, 2, 11, 22);
        map.poke(1, 1, 0, 255);
        Check.same("the second is good", map.read(1), 2);
        octetsAre("the first becomes the same", map, 1, 1, 11, 22);
        Check.same("the first is good again", map.read(1), 1);
        map.poke(1, 1, 0, 1);
        map.poke(1, 2, 1, 1);
        Check.same("none is good", map.read(1), 0);
        octetsAre("all 0", map, 1, 1, 0, 0);
        octetsAre("all 0", map, 1, 2, 0, 0);
        Check.same("good", map.read(1), 1);
        map.poke(1, 1, 0, 1);
        Check.same("the second is good, too", map.read(1), 2);
    }

    private static void readsThatAreRefused() {
        MemoryMap map = new MemoryMap(1);
        map.block(3);
        int[] none = {0, -1, 2, 20, 21, Integer.MIN_VALUE, Integer.MAX_VALUE};
        for (int block : none) {
            Check.same("read(" + block + ")", map.read(block), -1);
        }
    }

    private static void blocksAreApart() {
        MemoryMap map = new MemoryMap(1);
        map.block(2);
        map.block(2);
        map.write(2, 0, (byte) 5);
        map.poke(1, 1, 1, 9);
        octetsAre("block 1", map, 1, 1, 0, 9);
        octetsAre("block 2", map, 2, 1, 5, 0);
        Check.same("block 2 is good", map.read(2), 1);
        Check.same("block 1 is not", map.read(1), 2);
    }

    private static void everyPositionIsInTheSum() {
        for (int i = 0; i < 32; i++) {
            MemoryMap map = new MemoryMap(1);
            map.block(32);
            for (int bit = 0; bit < 8; bit++) {
                map.poke(1, 1, i, 1 << bit);
                Check.same("octet " + i + ", bit " + bit, map.read(1), 2);
            }
        }
    }

    private static void orderIsInTheSum() {
        MemoryMap map = new MemoryMap(1);
        map.block(2);
        map.write(1, 0, (byte) 1);
        map.write(1, 1, (byte) 2);
        map.poke(1, 1, 0, 3);
        map.poke(1, 1, 1, 3);
        Check.same("2 and 1 for 1 and 2", map.read(1), 2);
    }

    /** Octets that differ but have one sum, by the document's words, are as good as one another. */
    private static void sumsThatAreTheSame() {
        Map<Integer, Integer> seen = new HashMap<>();
        int found = 0;
        for (int n = 0; n < 1 << 18 && found < 3; n++) {
            int octets = n * 0x9e3779b1;
            Integer other = seen.put(sum(octets), octets);
            if (other != null) {
                found++;
                changedWithoutTheSum(other, octets);
            }
        }
        Check.isTrue("some were found", found == 3);
    }

    private static int sum(int fourOctets) {
        int s = 1;
        for (int i = 0; i < 4; i++) {
            s ^= fourOctets >>> 8 * i & 0xff;
            s = Integer.rotateLeft(s, 5);
            s *= -1028477379;
        }
        return s;
    }

    private static void changedWithoutTheSum(int from, int to) {
        MemoryMap map = new MemoryMap(1);
        map.block(4);
        for (int i = 0; i < 4; i++) {
            map.write(1, i, (byte) (from >>> 8 * i));
        }
        for (int i = 0; i < 4; i++) {
            map.poke(1, 1, i, (from ^ to) >>> 8 * i);
        }
        Check.same("other octets, the same sum", map.read(1), 1);
        for (int i = 0; i < 4; i++) {
            Check.same("octet " + i + " of copy 2", octet(map, 1, 2, i), to >>> 8 * i & 0xff);
        }
    }
}
