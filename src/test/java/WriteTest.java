/** Promise 9: write. */
public final class WriteTest {
    public static void main(String[] args) {
        noBlockYet();
        blocksOnBothSides();
        blocksThatAreFar();
        octetsOnBothSides();
        octetsOfTheShortest();
        octetsOfTheLongest();
        octetsThatAreFar();
        everyValue();
        bothCopies();
        sumsAnew();
        sumsAnewForAllOctets();
        sameValueAgain();
        unknownComesFirst();
        refusedOnesWriteNothing();
        refusedOnesRenewNoSum();
        Check.end();
    }

    private static MemoryMap withBlock(int n) {
        MemoryMap map = new MemoryMap(1);
        map.block(n);
        return map;
    }

    private static void noBlockYet() {
        Check.sentence("-1 there is no BLOCK");
        MemoryMap map = new MemoryMap(1);
        Check.same("block 1", map.write(1, 0, (byte) 1), -1);
        Check.same("block 0", map.write(0, 0, (byte) 1), -1);
        map.block(1);
        Octets.areInBoth("nothing was written ahead", map, 1, 0);
    }

    private static void blocksOnBothSides() {
        Check.sentence("-1 there is no BLOCK");
        MemoryMap map = withBlock(3);
        map.block(3);
        Check.same("block -1", map.write(-1, 0, (byte) 1), -1);
        Check.same("block 0", map.write(0, 0, (byte) 1), -1);
        Check.same("block 1", map.write(1, 0, (byte) 1), 1);
        Check.same("block 2", map.write(2, 0, (byte) 1), 1);
        Check.same("block 3", map.write(3, 0, (byte) 1), -1);
        Check.same("block 20", map.write(20, 0, (byte) 1), -1);
        Check.same("block 21", map.write(21, 0, (byte) 1), -1);
        for (int b = 3; b <= 20; b++) {
            map.block(1);
        }
        Check.same("block 20 is there now", map.write(20, 0, (byte) 1), 1);
        Check.same("block 21 never is", map.write(21, 0, (byte) 1), -1);
    }

    private static void blocksThatAreFar() {
        Check.sentence("-1 there is no BLOCK");
        MemoryMap map = withBlock(3);
        for (int block : Far.intsLike(1)) {
            Check.same("block " + block, map.write(block, 0, (byte) 1), -1);
        }
        Octets.areInBoth("nothing was written", map, 1, 0, 0, 0);
    }

    private static void octetsOnBothSides() {
        Check.sentence("-2 no such octet");
        MemoryMap map = withBlock(3);
        Check.same("octet -1", map.write(1, -1, (byte) 1), -2);
        Check.same("octet 3", map.write(1, 3, (byte) 1), -2);
        Check.same("octet 4", map.write(1, 4, (byte) 1), -2);
        Check.same("octet 31", map.write(1, 31, (byte) 1), -2);
        Check.same("octet 32", map.write(1, 32, (byte) 1), -2);
        Check.same("octet 0", map.write(1, 0, (byte) 7), 1);
        Check.same("octet 2", map.write(1, 2, (byte) 9), 1);
        Octets.areInBoth("the first and the last", map, 1, 7, 0, 9);
    }

    private static void octetsOfTheShortest() {
        Check.sentence("-2 no such octet");
        MemoryMap map = withBlock(1);
        Check.same("octet -1", map.write(1, -1, (byte) 1), -2);
        Check.same("octet 1", map.write(1, 1, (byte) 1), -2);
        Check.same("octet 0", map.write(1, 0, (byte) 1), 1);
        Octets.areInBoth("the only one", map, 1, 1);
    }

    private static void octetsOfTheLongest() {
        Check.sentence("-2 no such octet");
        MemoryMap map = withBlock(32);
        Check.same("octet 32", map.write(1, 32, (byte) 1), -2);
        Check.same("octet 33", map.write(1, 33, (byte) 1), -2);
        int[] due = new int[32];
        for (int i = 0; i < 32; i++) {
            Check.same("octet " + i, map.write(1, i, (byte) (i + 1)), 1);
            due[i] = i + 1;
        }
        Octets.areInBoth("all of them", map, 1, due);
    }

    private static void octetsThatAreFar() {
        Check.sentence("-2 no such octet");
        MemoryMap map = withBlock(3);
        for (int i : Far.intsLike(2)) {
            Check.same("octet " + i, map.write(1, i, (byte) 1), -2);
        }
        Octets.areInBoth("nothing was written", map, 1, 0, 0, 0);
    }

    private static void everyValue() {
        Check.sentence("for each octet b (0 .. 255)");
        MemoryMap map = withBlock(2);
        for (int b = -128; b <= 127; b++) {
            Check.same("b " + b, map.write(1, 1, (byte) b), 1);
        }
        for (int b : new int[] {-128, -127, -1, 0, 1, 126, 127}) {
            map.write(1, 1, (byte) b);
            Octets.areInBoth("b " + b, map, 1, 0, b < 0 ? b + 256 : b);
        }
    }

    private static void bothCopies() {
        Check.sentence("Octet i of both COPIES");
        MemoryMap map = withBlock(2);
        map.write(1, 0, (byte) 5);
        Octets.are("the first", map, 1, 1, 5, 0);
        Octets.are("the second", map, 1, 2, 5, 0);
        map.poke(1, 1, 0, 1);
        map.poke(1, 2, 0, 2);
        map.write(1, 0, (byte) 6);
        Octets.areInBoth("over what was poked", map, 1, 6, 0);
    }

    private static void sumsAnew() {
        Check.sentence("and their SUMS anew");
        for (int i = 0; i < 32; i++) {
            MemoryMap map = withBlock(32);
            map.write(1, i, (byte) -1);
            Check.same("copy 1 is good", map.read(1), 1);
            MemoryMap other = withBlock(32);
            other.write(1, i, (byte) -1);
            other.poke(1, 1, 31 - i, 1);
            Check.same("copy 2 is good", other.read(1), 2);
        }
    }

    private static void sumsAnewForAllOctets() {
        Check.sentence("their SUMS anew for all their octets");
        MemoryMap map = withBlock(2);
        map.poke(1, 1, 0, 5);
        map.poke(1, 2, 0, 6);
        map.write(1, 1, (byte) 9);
        Octets.are("each keeps what was poked", map, 1, 1, 5, 9);
        Octets.are("each keeps what was poked", map, 1, 2, 6, 9);
        map.poke(1, 1, 0, 255);
        Check.same("copy 2 is good with its own octets", map.read(1), 2);
        Octets.areInBoth("as copy 2", map, 1, 6, 9);
        map.poke(1, 1, 0, 5);
        map.poke(1, 2, 0, 6);
        map.write(1, 1, (byte) 9);
        Check.same("copy 1 is good with its own octets", map.read(1), 1);
        Octets.areInBoth("as copy 1", map, 1, 3, 9);
    }

    private static void sameValueAgain() {
        Check.sentence("and their SUMS anew for all their octets: 1");
        MemoryMap map = withBlock(2);
        map.poke(1, 1, 0, 5);
        map.poke(1, 2, 0, 5);
        Check.same("an octet that is so already", map.write(1, 0, (byte) 5), 1);
        Check.same("is good now", map.read(1), 1);
        Octets.areInBoth("as it was", map, 1, 5, 0);
    }

    private static void unknownComesFirst() {
        Check.sentence("REFUSALS change nothing and answer, the first that fits");
        MemoryMap map = withBlock(3);
        Check.same("block 2, octet 3", map.write(2, 3, (byte) 1), -1);
        Check.same("block 0, octet -1", map.write(0, -1, (byte) 1), -1);
        Check.same("block 21, octet 32", map.write(21, 32, (byte) 1), -1);
    }

    private static void refusedOnesWriteNothing() {
        Check.sentence("REFUSALS change nothing");
        MemoryMap map = withBlock(2);
        map.block(2);
        map.write(1, 0, (byte) 1);
        map.write(1, 1, (byte) 2);
        map.write(2, 0, (byte) 3);
        map.write(2, 1, (byte) 4);
        Check.same("behind block 1", map.write(1, 2, (byte) 9), -2);
        Check.same("before block 2", map.write(2, -1, (byte) 9), -2);
        Check.same("block 3", map.write(3, 0, (byte) 9), -1);
        Octets.areInBoth("block 1", map, 1, 1, 2);
        Octets.areInBoth("block 2", map, 2, 3, 4);
    }

    private static void refusedOnesRenewNoSum() {
        Check.sentence("REFUSALS change nothing");
        MemoryMap map = withBlock(2);
        map.poke(1, 1, 0, 1);
        map.poke(1, 2, 0, 1);
        Check.same("octet 2", map.write(1, 2, (byte) 1), -2);
        Check.same("octet -1", map.write(1, -1, (byte) 1), -2);
        Check.same("none is good", map.read(1), 0);
    }
}
