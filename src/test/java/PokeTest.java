/** Promise 10: poke. */
public final class PokeTest {
    public static void main(String[] args) {
        noBlockYet();
        blocksOnBothSides();
        blocksThatAreFar();
        copiesOnBothSides();
        copiesThatAreFar();
        octetsOnBothSides();
        octetsOfTheShortest();
        octetsOfTheLongest();
        octetsThatAreFar();
        masksOfEightBits();
        masksWithMoreBits();
        whatItIsThen();
        oneCopyAlone();
        withoutItsSum();
        pokedBackIsGood();
        unknownComesFirst();
        refusedOnesTurnNothing();
        Check.end();
    }

    private static MemoryMap withBlock(int n) {
        MemoryMap map = new MemoryMap(1);
        map.block(n);
        return map;
    }

    private static void noBlockYet() {
        Check.sentence("-1 there is no BLOCK or COPY");
        MemoryMap map = new MemoryMap(1);
        Check.same("block 1", map.poke(1, 1, 0, 1), -1);
        Check.same("block 0", map.poke(0, 1, 0, 1), -1);
        map.block(1);
        Octets.areInBoth("nothing was poked ahead", map, 1, 0);
    }

    private static void blocksOnBothSides() {
        Check.sentence("-1 there is no BLOCK or COPY");
        MemoryMap map = withBlock(3);
        map.block(3);
        Check.same("block -1", map.poke(-1, 1, 0, 1), -1);
        Check.same("block 0", map.poke(0, 1, 0, 1), -1);
        Check.same("block 1", map.poke(1, 1, 0, 1), 1);
        Check.same("block 2", map.poke(2, 2, 0, 1), 1);
        Check.same("block 3", map.poke(3, 1, 0, 1), -1);
        Check.same("block 20", map.poke(20, 1, 0, 1), -1);
        Check.same("block 21", map.poke(21, 1, 0, 1), -1);
        for (int b = 3; b <= 20; b++) {
            map.block(1);
        }
        Check.same("block 20 is there now", map.poke(20, 1, 0, 1), 1);
        Check.same("block 21 never is", map.poke(21, 1, 0, 1), -1);
    }

    private static void blocksThatAreFar() {
        Check.sentence("-1 there is no BLOCK or COPY");
        MemoryMap map = withBlock(3);
        for (int block : Far.intsLike(1)) {
            Check.same("block " + block, map.poke(block, 1, 0, 1), -1);
        }
        Octets.areInBoth("nothing was poked", map, 1, 0, 0, 0);
    }

    private static void copiesOnBothSides() {
        Check.sentence("Octet i of COPY 1 or 2");
        MemoryMap map = withBlock(3);
        Check.same("copy -1", map.poke(1, -1, 0, 1), -1);
        Check.same("copy 0", map.poke(1, 0, 0, 1), -1);
        Check.same("copy 3", map.poke(1, 3, 0, 1), -1);
        Octets.areInBoth("nothing was poked", map, 1, 0, 0, 0);
        Check.same("copy 1", map.poke(1, 1, 0, 5), 5);
        Check.same("copy 2", map.poke(1, 2, 0, 6), 6);
    }

    private static void copiesThatAreFar() {
        Check.sentence("-1 there is no BLOCK or COPY");
        MemoryMap map = withBlock(3);
        for (int good : new int[] {1, 2}) {
            for (int copy : Far.intsLike(good)) {
                Check.same("copy " + copy, map.poke(1, copy, 0, 1), -1);
            }
        }
        Octets.areInBoth("nothing was poked", map, 1, 0, 0, 0);
    }

    private static void octetsOnBothSides() {
        Check.sentence("-2 no such octet");
        MemoryMap map = withBlock(3);
        for (int copy = 1; copy <= 2; copy++) {
            Check.same("octet -1", map.poke(1, copy, -1, 1), -2);
            Check.same("octet 3", map.poke(1, copy, 3, 1), -2);
            Check.same("octet 4", map.poke(1, copy, 4, 1), -2);
            Check.same("octet 32", map.poke(1, copy, 32, 1), -2);
            Check.same("octet 0", map.poke(1, copy, 0, 7), 7);
            Check.same("octet 2", map.poke(1, copy, 2, 9), 9);
        }
        Octets.areInBoth("the first and the last", map, 1, 7, 0, 9);
    }

    private static void octetsOfTheShortest() {
        Check.sentence("-2 no such octet");
        MemoryMap map = withBlock(1);
        Check.same("octet -1", map.poke(1, 1, -1, 1), -2);
        Check.same("octet 1", map.poke(1, 1, 1, 1), -2);
        Check.same("octet 0", map.poke(1, 1, 0, 1), 1);
    }

    private static void octetsOfTheLongest() {
        Check.sentence("-2 no such octet");
        MemoryMap map = withBlock(32);
        Check.same("octet 32 of copy 1", map.poke(1, 1, 32, 1), -2);
        Check.same("octet 32 of copy 2", map.poke(1, 2, 32, 1), -2);
        Check.same("octet 33", map.poke(1, 2, 33, 1), -2);
        int[] due = new int[32];
        for (int i = 0; i < 32; i++) {
            Check.same("octet " + i, map.poke(1, 2, i, i + 1), i + 1);
            due[i] = i + 1;
        }
        Octets.are("all of copy 2", map, 1, 2, due);
        Octets.are("none of copy 1", map, 1, 1, new int[32]);
    }

    private static void octetsThatAreFar() {
        Check.sentence("-2 no such octet");
        MemoryMap map = withBlock(3);
        for (int i : Far.intsLike(2)) {
            Check.same("octet " + i + " of copy 1", map.poke(1, 1, i, 1), -2);
            Check.same("octet " + i + " of copy 2", map.poke(1, 2, i, 1), -2);
        }
        Octets.areInBoth("nothing was poked", map, 1, 0, 0, 0);
    }

    private static void masksOfEightBits() {
        Check.sentence("becomes its xor with the mask's lowest 8 bits");
        for (int mask = 0; mask <= 255; mask++) {
            MemoryMap map = withBlock(1);
            map.write(1, 0, (byte) 0x5a);
            Check.same("mask " + mask, map.poke(1, 2, 0, mask), 0x5a ^ mask);
        }
    }

    private static void masksWithMoreBits() {
        Check.sentence("the mask's lowest 8 bits");
        MemoryMap map = withBlock(1);
        map.write(1, 0, (byte) 0x5a);
        Check.same("mask 256", map.poke(1, 1, 0, 256), 0x5a);
        Check.same("mask 257", map.poke(1, 1, 0, 257), 0x5b);
        Check.same("mask 0x7fffff01", map.poke(1, 1, 0, 0x7fffff01), 0x5a);
        Check.same("mask -256", map.poke(1, 1, 0, -256), 0x5a);
        Check.same("mask -1", map.poke(1, 1, 0, -1), 0xa5);
        Check.same("mask -1 again", map.poke(1, 1, 0, -1), 0x5a);
        Check.same("mask -128", map.poke(1, 1, 0, -128), 0xda);
        Check.same("mask 128", map.poke(1, 1, 0, 128), 0x5a);
        Check.same("the least", map.poke(1, 1, 0, Integer.MIN_VALUE), 0x5a);
        Check.same("the greatest", map.poke(1, 1, 0, Integer.MAX_VALUE), 0xa5);
    }

    private static void whatItIsThen() {
        Check.sentence("what it is then (0 .. 255)");
        MemoryMap map = withBlock(1);
        Check.same("127", map.poke(1, 1, 0, 127), 127);
        Check.same("128", map.poke(1, 1, 0, 255), 128);
        Check.same("255", map.poke(1, 1, 0, 127), 255);
        Check.same("0", map.poke(1, 1, 0, 255), 0);
        Check.same("0 again", map.poke(1, 1, 0, 0), 0);
    }

    private static void oneCopyAlone() {
        Check.sentence("Octet i of COPY 1 or 2");
        MemoryMap map = withBlock(2);
        map.block(2);
        map.poke(1, 1, 0, 5);
        Octets.are("copy 1", map, 1, 1, 5, 0);
        Octets.are("not copy 2", map, 1, 2, 0, 0);
        map.poke(1, 2, 1, 6);
        Octets.are("not copy 1", map, 1, 1, 5, 0);
        Octets.are("copy 2", map, 1, 2, 0, 6);
        Octets.areInBoth("not the other block", map, 2, 0, 0);
    }

    private static void withoutItsSum() {
        Check.sentence("without its SUM");
        for (int i = 0; i < 32; i++) {
            MemoryMap map = withBlock(32);
            for (int bit = 0; bit < 8; bit++) {
                map.poke(1, 1, i, 1 << bit);
                Check.same("octet " + i + ", bit " + bit, map.read(1), 2);
            }
        }
    }

    private static void pokedBackIsGood() {
        Check.sentence("a COPY is GOOD if its SUM is that of its octets");
        MemoryMap map = withBlock(2);
        map.write(1, 0, (byte) 17);
        map.poke(1, 1, 0, 255);
        map.poke(1, 1, 0, 255);
        Check.same("poked back", map.read(1), 1);
        map.poke(1, 1, 0, 0);
        Check.same("no bit was turned", map.read(1), 1);
        map.poke(1, 1, 0, 256);
        Check.same("no bit of the lowest 8", map.read(1), 1);
    }

    private static void unknownComesFirst() {
        Check.sentence("REFUSALS change nothing and answer, the first that fits");
        MemoryMap map = withBlock(3);
        Check.same("block 2, octet 3", map.poke(2, 1, 3, 1), -1);
        Check.same("block 0, octet -1", map.poke(0, 1, -1, 1), -1);
        Check.same("copy 0, octet 3", map.poke(1, 0, 3, 1), -1);
        Check.same("copy 3, octet -1", map.poke(1, 3, -1, 1), -1);
        Check.same("block 2, copy 3, octet 3", map.poke(2, 3, 3, 1), -1);
        Check.same("octet 3 alone", map.poke(1, 2, 3, 1), -2);
    }

    private static void refusedOnesTurnNothing() {
        Check.sentence("REFUSALS change nothing");
        MemoryMap map = withBlock(2);
        map.block(2);
        map.write(1, 1, (byte) 8);
        Check.same("behind copy 1", map.poke(1, 1, 2, 1), -2);
        Check.same("before copy 2", map.poke(1, 2, -1, 1), -2);
        Check.same("copy 3", map.poke(1, 3, 0, 1), -1);
        Check.same("copy 0", map.poke(1, 0, 0, 1), -1);
        Check.same("block 3", map.poke(3, 1, 0, 1), -1);
        Octets.areInBoth("block 1", map, 1, 0, 8);
        Octets.areInBoth("block 2", map, 2, 0, 0);
        Check.same("block 1 is good", map.read(1), 1);
        Check.same("block 2 is good", map.read(2), 1);
    }
}
