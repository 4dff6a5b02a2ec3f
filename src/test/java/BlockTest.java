/** Promise 8: block. */
public final class BlockTest {
    public static void main(String[] args) {
        numbersFromOneOn();
        lengthsOnBothSides();
        lengthsBeyond32Bits();
        everyLength();
        octetsAtFirst();
        copiesAtFirst();
        twentyAndOneMore();
        rangeComesBeforeRoom();
        refusedOnesTakeNoNumber();
        newOnesLeaveTheOthers();
        Check.end();
    }

    private static void numbersFromOneOn() {
        Check.sentence("BLOCKS, at most 20, numbered from 1 on");
        MemoryMap map = new MemoryMap(1);
        Check.same("none yet", map.read(1), -1);
        Check.same("the first", map.block(5), 1);
        Check.same("refused", map.block(0), -2);
        Check.same("the second", map.block(5), 2);
        Check.same("refused", map.block(33), -2);
        Check.same("the third", map.block(5), 3);
        Check.same("no fourth", map.read(4), -1);
    }

    private static void lengthsOnBothSides() {
        Check.sentence("-2 n is not 1 .. 32");
        MemoryMap map = new MemoryMap(1);
        Check.same("n -1", map.block(-1), -2);
        Check.same("n 0", map.block(0), -2);
        Check.same("n 33", map.block(33), -2);
        Check.same("n 64", map.block(64), -2);
        Check.same("none was made", map.read(1), -1);
        Check.same("n 1", map.block(1), 1);
        Check.same("n 2", map.block(2), 2);
        Check.same("n 31", map.block(31), 3);
        Check.same("n 32", map.block(32), 4);
        Check.same("no fifth", map.read(5), -1);
    }

    private static void lengthsBeyond32Bits() {
        Check.sentence("-2 n is not 1 .. 32");
        for (long good : new long[] {1, 7, 32}) {
            MemoryMap map = new MemoryMap(1);
            for (long n : Far.longsLike(good)) {
                Check.same("n " + n, map.block(n), -2);
            }
            Check.same("none was made", map.read(1), -1);
        }
    }

    private static void everyLength() {
        Check.sentence("of 1 to 32 octets");
        for (int n = 1; n <= 32; n++) {
            MemoryMap map = new MemoryMap(1);
            Check.same("block(" + n + ")", map.block(n), 1);
            Check.same("its last octet", map.write(1, n - 1, (byte) 1), 1);
            Check.same("behind it", map.write(1, n, (byte) 1), -2);
        }
    }

    private static void octetsAtFirst() {
        Check.sentence("of 1 to 32 octets, at first 0, in two COPIES");
        MemoryMap map = new MemoryMap(1);
        map.block(1);
        map.block(32);
        Octets.areInBoth("the shortest", map, 1, 0);
        Octets.areInBoth("the longest", map, 2, new int[32]);
    }

    private static void copiesAtFirst() {
        Check.sentence("a COPY is GOOD if its SUM is that of its octets");
        for (int n = 1; n <= 32; n++) {
            MemoryMap map = new MemoryMap(1);
            map.block(n);
            Check.same("copy 1 of " + n, map.read(1), 1);
            MemoryMap second = new MemoryMap(1);
            second.block(n);
            second.poke(1, 1, n - 1, 1);
            Check.same("copy 2 of " + n, second.read(1), 2);
        }
    }

    private static MemoryMap withTwenty() {
        MemoryMap map = new MemoryMap(1);
        for (int b = 1; b <= 20; b++) {
            Check.same("block " + b, map.block(b), b);
        }
        return map;
    }

    private static void twentyAndOneMore() {
        Check.sentence("-4 there are 20");
        MemoryMap map = withTwenty();
        Check.same("a 21st", map.block(1), -4);
        Check.same("a 21st of 32", map.block(32), -4);
        Check.same("the 20th", map.read(20), 1);
        Check.same("no 21st to read", map.read(21), -1);
        Check.same("no 21st to write", map.write(21, 0, (byte) 1), -1);
        Check.same("no 21st to poke", map.poke(21, 1, 0, 1), -1);
        for (int b = 1; b <= 20; b++) {
            Check.same("the last octet of " + b, map.poke(b, 2, b - 1, 0), 0);
            Check.same("behind it", map.poke(b, 2, b, 0), -2);
        }
    }

    private static void rangeComesBeforeRoom() {
        Check.sentence("REFUSALS change nothing and answer, the first that fits");
        MemoryMap map = withTwenty();
        Check.same("n 0", map.block(0), -2);
        Check.same("n 33", map.block(33), -2);
        Check.same("n -1", map.block(-1), -2);
        Check.same("n 1", map.block(1), -4);
    }

    private static void refusedOnesTakeNoNumber() {
        Check.sentence("REFUSALS change nothing");
        MemoryMap map = new MemoryMap(1);
        map.block(4);
        for (int again = 0; again < 30; again++) {
            Check.same("n 33", map.block(33), -2);
        }
        Check.same("the second", map.block(2), 2);
        Octets.areInBoth("the first is as before", map, 1, 0, 0, 0, 0);
    }

    private static void newOnesLeaveTheOthers() {
        Check.sentence("A BLOCK: its number");
        MemoryMap map = new MemoryMap(1);
        map.block(2);
        map.write(1, 0, (byte) 5);
        map.poke(1, 1, 1, 9);
        map.block(2);
        Octets.are("the first", map, 1, 1, 5, 9);
        Octets.are("the first", map, 1, 2, 5, 0);
        Octets.areInBoth("the second", map, 2, 0, 0);
        Check.same("the second is good", map.read(2), 1);
        Check.same("the first is as it was", map.read(1), 2);
    }
}
