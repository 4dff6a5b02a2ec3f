/** Promise 1: a new object. */
public final class NewObjectTest {
    public static void main(String[] args) {
        leastSizes();
        greatestSizes();
        sizesTooSmall();
        sizesTooLarge();
        sizesBeyond32Bits();
        usualSizeIsASizeToo();
        nothingIsThereYet();
        functionsAtFirst();
        objectsAreApart();
        lastOf512Calls();
        Check.end();
    }

    private static void leastSizes() {
        Check.sentence("So many ADDRESSES (1 .. 65536");
        hasSize(1L, 1);
        hasSize(2L, 2);
        hasSize(3L, 3);
    }

    private static void greatestSizes() {
        Check.sentence("So many ADDRESSES (1 .. 65536");
        hasSize(65534L, 65534);
        hasSize(65535L, 65535);
        hasSize(65536L, 65536);
    }

    private static void sizesTooSmall() {
        Check.sentence("4096 for any other number");
        hasSize(0L, 4096);
        hasSize(-1L, 4096);
        hasSize(-4096L, 4096);
        hasSize(-65536L, 4096);
    }

    private static void sizesTooLarge() {
        Check.sentence("4096 for any other number");
        hasSize(65537L, 4096);
        hasSize(65538L, 4096);
        hasSize(131072L, 4096);
    }

    private static void sizesBeyond32Bits() {
        Check.sentence("4096 for any other number");
        for (long good : new long[] {1, 5, 65536}) {
            for (long size : Far.longsLike(good)) {
                hasSize(size, 4096);
            }
        }
    }

    private static void usualSizeIsASizeToo() {
        Check.sentence("So many ADDRESSES (1 .. 65536; 4096 for any other number)");
        hasSize(4095L, 4095);
        hasSize(4096L, 4096);
        hasSize(4097L, 4097);
    }

    private static void hasSize(long asked, long due) {
        MemoryMap map = new MemoryMap(asked);
        String name = "MemoryMap(" + asked + "): ";
        Check.same(name + "cell(0)", map.cell(0), -1);
        Check.same(name + "cell(size - 1)", map.cell(due - 1), -1);
        Check.throwsExactly(name + "cell(size)", ArrayIndexOutOfBoundsException.class, () -> map.cell(due));
        Check.throwsExactly(name + "cell(-1)", ArrayIndexOutOfBoundsException.class, () -> map.cell(-1));
        Check.same(name + "a region one too long", map.region(0, due + 1, 7), -2);
        Check.same(name + "a region of all", map.region(0, due, 7), 1);
        Check.same(name + "a section of all", map.section(due, 1, 7), 1);
        Check.same(name + "place", map.place(), 1);
        Check.same(name + "the last octet", map.cell(due - 1), 1);
    }

    private static void nothingIsThereYet() {
        Check.sentence("A new object");
        MemoryMap map = new MemoryMap(100);
        Check.same("no section", map.at(1), -1);
        Check.same("no placement", map.moved(1), -1);
        Check.same("no placement 0", map.moved(0), -1);
        Check.same("no block to read", map.read(1), -1);
        Check.same("no block to write", map.write(1, 0, (byte) 0), -1);
        Check.same("no block to poke", map.poke(1, 1, 0, 0), -1);
        for (int address = 0; address < 100; address++) {
            Check.same("cell(" + address + ")", map.cell(address), -1);
        }
        Check.same("the first region", map.region(0, 1, 0), 1);
        Check.same("the first section", map.section(1, 1, 0), 1);
        Check.same("the first block", map.block(1), 1);
    }

    private static void functionsAtFirst() {
        Check.sentence("FUNCTIONS are 1 .. 30, each with a STACK, at first 0");
        MemoryMap map = new MemoryMap(100);
        for (int f = 1; f <= 30; f++) {
            Check.same("depth(" + f + ")", map.depth(f), 0);
            Check.same("calls of " + f, map.call(f, 0, 0), 0);
        }
    }

    private static void objectsAreApart() {
        Check.sentence("A new object");
        MemoryMap busy = new MemoryMap(100);
        busy.region(0, 100, 7);
        busy.section(10, 1, 0);
        busy.place();
        busy.call(1, 2, 5);
        busy.block(4);
        MemoryMap other = new MemoryMap(100);
        Check.same("no section", other.at(1), -1);
        Check.same("no placement", other.moved(1), -1);
        Check.same("no cell", other.cell(0), -1);
        Check.same("no stack", other.depth(1), 0);
        Check.same("no call", other.call(1, 0, 0), 0);
        Check.same("no block", other.read(1), -1);
        Check.same("no region", other.region(0, 100, 7), 1);
        Check.same("the busy one is as before", busy.at(1), 0);
    }

    /** The 511 calls before it take all that may be there, and more placings than are kept. */
    private static void lastOf512Calls() {
        Check.sentence("An object is used for at most 512 calls after it has been made");
        MemoryMap map = new MemoryMap(65536);
        int calls = 0;
        for (int r = 0; r < 16; r++, calls++) {
            map.region(4096L * r, 4096, 7);
        }
        for (int s = 0; s < 40; s++, calls++) {
            map.section(1000, 1, 7);
        }
        for (int b = 0; b < 20; b++, calls++) {
            map.block(32);
        }
        for (int f = 1; f <= 30; f++, calls++) {
            map.call(f, 31 - f, 1000000);
        }
        for (; calls < 511; calls++) {
            Check.same("call " + (calls + 1), map.place(), 1);
        }
        Check.same("call 512", map.at(40), 9 * 4096 + 3000);
    }
}
