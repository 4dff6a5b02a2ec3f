import java.util.HashMap;
import java.util.Map;

/** Promise 11: read, and the sentences on SUMS. */
public final class ReadTest {
    public static void main(String[] args) {
        noBlockYet();
        blocksOnBothSides();
        blocksThatAreFar();
        bothAreGood();
        onlyTheFirstIsGood();
        onlyTheSecondIsGood();
        noneIsGood();
        noneIsGoodOfTheShortest();
        noneIsGoodOfTheLongest();
        otherBecomesTheSameWithItsSum();
        bothAreGoodButDiffer();
        secondIsGoodAndItsSumDiffers();
        otherBlocksStay();
        orderIsInTheSum();
        everyOctetIsInTheSum();
        sumsThatAreTheSame();
        refusedOnesMendNothing();
        Check.end();
    }

    private static MemoryMap withOctets(int... octets) {
        MemoryMap map = new MemoryMap(1);
        map.block(octets.length);
        for (int i = 0; i < octets.length; i++) {
            map.write(1, i, (byte) octets[i]);
        }
        return map;
    }

    private static void noBlockYet() {
        Check.sentence("-1 there is no BLOCK");
        MemoryMap map = new MemoryMap(1);
        Check.same("read(1)", map.read(1), -1);
        Check.same("read(0)", map.read(0), -1);
    }

    private static void blocksOnBothSides() {
        Check.sentence("-1 there is no BLOCK");
        MemoryMap map = withOctets(1, 2);
        map.block(3);
        Check.same("read(-1)", map.read(-1), -1);
        Check.same("read(0)", map.read(0), -1);
        Check.same("read(1)", map.read(1), 1);
        Check.same("read(2)", map.read(2), 1);
        Check.same("read(3)", map.read(3), -1);
        Check.same("read(20)", map.read(20), -1);
        Check.same("read(21)", map.read(21), -1);
        for (int b = 3; b <= 20; b++) {
            map.block(1);
        }
        Check.same("read(20), there now", map.read(20), 1);
        Check.same("read(21), never there", map.read(21), -1);
    }

    private static void blocksThatAreFar() {
        Check.sentence("-1 there is no BLOCK");
        MemoryMap map = withOctets(1, 2);
        for (int block : Far.intsLike(1)) {
            Check.same("read(" + block + ")", map.read(block), -1);
        }
    }

    private static void bothAreGood() {
        Check.sentence("The first COPY that is GOOD: 1 or 2");
        MemoryMap map = withOctets(11, 22);
        Check.same("the first", map.read(1), 1);
        Check.same("the first again", map.read(1), 1);
        Octets.areInBoth("as they were", map, 1, 11, 22);
    }

    private static void onlyTheFirstIsGood() {
        Check.sentence("the other one becomes the same, with its SUM");
        MemoryMap map = withOctets(11, 22);
        map.poke(1, 2, 0, 255);
        map.poke(1, 2, 1, 1);
        Check.same("the first", map.read(1), 1);
        Octets.areInBoth("the second is mended", map, 1, 11, 22);
        map.poke(1, 1, 0, 1);
        Check.same("the second is good again", map.read(1), 2);
    }

    private static void onlyTheSecondIsGood() {
        Check.sentence("the other one becomes the same, with its SUM");
        MemoryMap map = withOctets(11, 22);
        map.poke(1, 1, 0, 255);
        map.poke(1, 1, 1, 1);
        Check.same("the second", map.read(1), 2);
        Octets.areInBoth("the first is mended", map, 1, 11, 22);
        Check.same("the first is good again", map.read(1), 1);
    }

    private static void noneIsGood() {
        Check.sentence("If none is: 0, and both are all 0 again, GOOD");
        MemoryMap map = withOctets(11, 22, 33);
        map.poke(1, 1, 0, 1);
        map.poke(1, 2, 2, 1);
        Check.same("none", map.read(1), 0);
        Octets.areInBoth("all 0", map, 1, 0, 0, 0);
        Check.same("the first is good", map.read(1), 1);
        map.poke(1, 1, 0, 1);
        Check.same("the second is good, too", map.read(1), 2);
        map.poke(1, 1, 0, 1);
        map.poke(1, 2, 0, 1);
        Check.same("none once more", map.read(1), 0);
        Octets.areInBoth("all 0 once more", map, 1, 0, 0, 0);
    }

    private static void noneIsGoodOfTheShortest() {
        Check.sentence("If none is: 0, and both are all 0 again, GOOD");
        MemoryMap map = withOctets(200);
        map.poke(1, 1, 0, 1);
        map.poke(1, 2, 0, 1);
        Check.same("none, though the same", map.read(1), 0);
        Octets.areInBoth("all 0", map, 1, 0);
        Check.same("good", map.read(1), 1);
    }

    private static void noneIsGoodOfTheLongest() {
        Check.sentence("If none is: 0, and both are all 0 again, GOOD");
        MemoryMap map = new MemoryMap(1);
        map.block(32);
        for (int i = 0; i < 32; i++) {
            map.write(1, i, (byte) -1);
        }
        map.poke(1, 1, 31, 128);
        map.poke(1, 2, 31, 128);
        Check.same("none, by the last octet's highest bit", map.read(1), 0);
        Octets.areInBoth("all 0", map, 1, new int[32]);
        Check.same("good", map.read(1), 1);
    }

    private static void otherBecomesTheSameWithItsSum() {
        Check.sentence("the other one becomes the same, with its SUM");
        MemoryMap map = withOctets(1, 2, 3);
        map.poke(1, 2, 1, 7);
        Check.same("copy 2 is mended", map.read(1), 1);
        map.poke(1, 1, 2, 7);
        Check.same("copy 1 is mended from it", map.read(1), 2);
        map.poke(1, 2, 0, 7);
        Check.same("copy 2 is mended again", map.read(1), 1);
        Octets.areInBoth("as written", map, 1, 1, 2, 3);
    }

    private static void bothAreGoodButDiffer() {
        Check.sentence("The first COPY that is GOOD: 1 or 2; the other one becomes the same");
        MemoryMap map = withOctets(1, 2);
        map.poke(1, 1, 0, 4);
        map.write(1, 1, (byte) 3);
        Octets.are("copy 1", map, 1, 1, 5, 3);
        Octets.are("copy 2", map, 1, 2, 1, 3);
        Check.same("the first of two that are good", map.read(1), 1);
        Octets.areInBoth("as copy 1", map, 1, 5, 3);
        map.poke(1, 1, 0, 1);
        Check.same("copy 2 has copy 1's sum", map.read(1), 2);
        Octets.areInBoth("as copy 2 now", map, 1, 5, 3);
    }

    private static void secondIsGoodAndItsSumDiffers() {
        Check.sentence("the other one becomes the same, with its SUM");
        MemoryMap map = withOctets(1, 2);
        map.poke(1, 2, 0, 4);
        map.write(1, 1, (byte) 3);
        map.poke(1, 1, 1, 1);
        Check.same("copy 2 with a sum of its own", map.read(1), 2);
        Octets.areInBoth("as copy 2", map, 1, 5, 3);
        Check.same("copy 1 has that sum now", map.read(1), 1);
    }

    private static void otherBlocksStay() {
        Check.sentence("the other one becomes the same, with its SUM");
        MemoryMap map = withOctets(1, 2);
        map.block(2);
        map.poke(1, 1, 0, 9);
        map.poke(2, 1, 0, 9);
        Check.same("block 2", map.read(2), 2);
        Octets.are("block 1 is not mended", map, 1, 1, 8, 2);
        Check.same("block 1", map.read(1), 2);
    }

    private static void orderIsInTheSum() {
        Check.sentence("for each octet b (0 .. 255) in turn");
        MemoryMap map = withOctets(1, 2);
        map.poke(1, 1, 0, 3);
        map.poke(1, 1, 1, 3);
        Check.same("2 and 1 for 1 and 2", map.read(1), 2);
    }

    private static void everyOctetIsInTheSum() {
        Check.sentence("a COPY is GOOD if its SUM is that of its octets");
        for (int n = 1; n <= 32; n++) {
            for (int i = 0; i < n; i++) {
                MemoryMap map = new MemoryMap(1);
                map.block(n);
                map.poke(1, 1, i, 128);
                map.poke(1, 2, i, 1);
                Check.same("octet " + i + " of " + n, map.read(1), 0);
            }
        }
    }

    /** Octets that differ but have one sum, by the document's words, are as good as one another. */
    private static void sumsThatAreTheSame() {
        Check.sentence("s becomes s xor b, turned to the left by 5, times -1028477379, in 32 bits");
        Map<Integer, Integer> seen = new HashMap<>();
        int found = 0;
        for (int n = 0; n < 1 << 18 && found < 3; n++) {
            int octets = n * 0x9e3779b1;
            Integer other = seen.put(sum(octets), octets);
            if (other != null) {
                found++;
                changedWithoutTheSum(other, octets);
            }
        }
        Check.isTrue("some were found", found == 3);
    }

    private static int sum(int fourOctets) {
        int s = 1;
        for (int i = 0; i < 4; i++) {
            s ^= fourOctets >>> 8 * i & 0xff;
            s = Integer.rotateLeft(s, 5);
            s *= -1028477379;
        }
        return s;
    }

    private static void changedWithoutTheSum(int from, int to) {
        MemoryMap map = new MemoryMap(1);
        map.block(4);
        for (int i = 0; i < 4; i++) {
            map.write(1, i, (byte) (from >>> 8 * i));
        }
        for (int i = 0; i < 4; i++) {
            map.poke(1, 1, i, (from ^ to) >>> 8 * i);
        }
        Check.same("other octets, the same sum", map.read(1), 1);
        for (int i = 0; i < 4; i++) {
            Check.same("octet " + i + " of copy 2", map.poke(1, 2, i, 0), to >>> 8 * i & 0xff);
        }
    }

    private static void refusedOnesMendNothing() {
        Check.sentence("REFUSALS change nothing");
        MemoryMap map = withOctets(1, 2);
        map.poke(1, 1, 0, 9);
        Check.same("read(0)", map.read(0), -1);
        Check.same("read(2)", map.read(2), -1);
        Octets.are("copy 1", map, 1, 1, 8, 2);
        Octets.are("copy 2", map, 1, 2, 1, 2);
        Check.same("a new block", map.block(1), 2);
    }
}
