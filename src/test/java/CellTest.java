/** Promise 12: cell. */
public final class CellTest {
    public static void main(String[] args) {
        addressesOnBothSides();
        addressesOfTheSmallest();
        addressesOfTheGreatest();
        addressesBeyond32Bits();
        nothingPlacedYet();
        octetsOnBothSides();
        sectionsThatTouch();
        outsideOfRegions();
        lengthZero();
        oneOctet();
        fortiethSection();
        lastPlacementAlone();
        lastPlacementBeyondTheKept();
        failureLeavesAll();
        newSectionsAndRegions();
        exceptionChangesNothing();
        Check.end();
    }

    private static void isNoAddress(MemoryMap map, long address) {
        Check.throwsExactly("cell(" + address + ")", ArrayIndexOutOfBoundsException.class, () -> map.cell(address));
    }

    private static void addressesOnBothSides() {
        Check.sentence("ArrayIndexOutOfBoundsException when that is none");
        MemoryMap map = new MemoryMap(100);
        isNoAddress(map, -100);
        isNoAddress(map, -1);
        Check.same("cell(0)", map.cell(0), -1);
        Check.same("cell(99)", map.cell(99), -1);
        isNoAddress(map, 100);
        isNoAddress(map, 101);
        isNoAddress(map, 4095);
        isNoAddress(map, 65535);
        map.region(0, 100, 7);
        map.section(100, 1, 0);
        map.place();
        isNoAddress(map, -1);
        Check.same("cell(0) of a full map", map.cell(0), 1);
        Check.same("cell(99) of a full map", map.cell(99), 1);
        isNoAddress(map, 100);
    }

    private static void addressesOfTheSmallest() {
        Check.sentence("ADDRESSES are 0 .. SIZE - 1");
        MemoryMap map = new MemoryMap(1);
        isNoAddress(map, -1);
        Check.same("cell(0)", map.cell(0), -1);
        isNoAddress(map, 1);
    }

    private static void addressesOfTheGreatest() {
        Check.sentence("ADDRESSES are 0 .. SIZE - 1");
        MemoryMap map = new MemoryMap(65536);
        map.region(65535, 1, 0);
        map.section(1, 1, 0);
        map.place();
        Check.same("cell(65534)", map.cell(65534), -1);
        Check.same("cell(65535)", map.cell(65535), 1);
        isNoAddress(map, 65536);
    }

    private static void addressesBeyond32Bits() {
        Check.sentence("ArrayIndexOutOfBoundsException when that is none");
        MemoryMap map = new MemoryMap(100);
        map.region(0, 100, 7);
        map.section(100, 1, 0);
        map.place();
        for (long good : new long[] {0, 7, 99}) {
            for (long address : Far.longsLike(good)) {
                isNoAddress(map, address);
            }
        }
    }

    private static void nothingPlacedYet() {
        Check.sentence("-1 if none is");
        MemoryMap map = new MemoryMap(10);
        Check.same("a new object", map.cell(0), -1);
        map.region(0, 10, 7);
        map.section(10, 1, 0);
        Check.same("a section that was not placed", map.cell(0), -1);
        map.place();
        Check.same("placed", map.cell(0), 1);
    }

    private static void octetsOnBothSides() {
        Check.sentence("the SECTION that was PLACED there last");
        MemoryMap map = new MemoryMap(100);
        map.region(10, 30, 7);
        map.section(4, 1, 0);
        map.section(6, 8, 0);
        map.place();
        Check.same("before the first octet of 1", map.cell(9), -1);
        Check.same("the first octet of 1", map.cell(10), 1);
        Check.same("the last octet of 1", map.cell(13), 1);
        Check.same("behind 1", map.cell(14), -1);
        Check.same("before 2", map.cell(15), -1);
        Check.same("the first octet of 2", map.cell(16), 2);
        Check.same("the last octet of 2", map.cell(21), 2);
        Check.same("behind 2", map.cell(22), -1);
    }

    private static void sectionsThatTouch() {
        Check.sentence("the SECTION that was PLACED there last");
        MemoryMap map = new MemoryMap(30);
        map.region(0, 30, 7);
        for (int s = 1; s <= 10; s++) {
            map.section(3, 1, 0);
        }
        map.place();
        for (int address = 0; address < 30; address++) {
            Check.same("cell(" + address + ")", map.cell(address), address / 3 + 1);
        }
    }

    private static void outsideOfRegions() {
        Check.sentence("-1 if none is");
        MemoryMap map = new MemoryMap(30);
        map.region(10, 10, 7);
        map.section(10, 1, 0);
        map.place();
        for (int address = 0; address < 30; address++) {
            Check.same("cell(" + address + ")", map.cell(address), address >= 10 && address < 20 ? 1 : -1);
        }
    }

    private static void lengthZero() {
        Check.sentence("One of LENGTH 0 is at 0, without taking anything");
        MemoryMap map = new MemoryMap(30);
        map.region(0, 30, 7);
        map.section(0, 1, 0);
        map.place();
        Check.same("it is not at 0", map.cell(0), -1);
        map.section(1, 1, 0);
        map.place();
        Check.same("the other one is", map.cell(0), 2);
        Check.same("behind it", map.cell(1), -1);
    }

    private static void oneOctet() {
        Check.sentence("the SECTION that was PLACED there last");
        MemoryMap map = new MemoryMap(30);
        map.region(5, 1, 7);
        map.section(1, 1, 0);
        map.place();
        Check.same("before it", map.cell(4), -1);
        Check.same("there", map.cell(5), 1);
        Check.same("behind it", map.cell(6), -1);
    }

    private static void fortiethSection() {
        Check.sentence("SECTIONS, at most 40, numbered from 1 on");
        MemoryMap map = new MemoryMap(41);
        map.region(0, 41, 7);
        for (int s = 1; s <= 40; s++) {
            map.section(1, 1, 0);
        }
        map.place();
        for (int address = 0; address < 40; address++) {
            Check.same("cell(" + address + ")", map.cell(address), address + 1);
        }
        Check.same("behind the 40th", map.cell(40), -1);
    }

    private static void lastPlacementAlone() {
        Check.sentence("the SECTION that was PLACED there last, -1 if none is");
        MemoryMap map = new MemoryMap(100);
        map.region(3, 30, 7);
        map.section(10, 1, 0);
        map.place();
        Check.same("1 is at 3", map.cell(3), 1);
        map.section(12, 8, 0);
        map.place();
        Check.same("1 is not at 3 any more", map.cell(3), -1);
        Check.same("nor at 7", map.cell(7), -1);
        Check.same("2 is where 1 was", map.cell(8), 2);
        Check.same("the last octet of 2", map.cell(19), 2);
        Check.same("1 is there now", map.cell(20), 1);
        Check.same("its last octet", map.cell(29), 1);
        Check.same("behind it", map.cell(30), -1);
    }

    private static void lastPlacementBeyondTheKept() {
        Check.sentence("the SECTION that was PLACED there last");
        MemoryMap map = new MemoryMap(100);
        map.region(0, 30, 7);
        map.section(5, 1, 0);
        for (int p = 1; p <= 50; p++) {
            map.place();
        }
        map.section(6, 1, 0);
        Check.same("before placement 51", map.cell(0), 1);
        map.place();
        Check.same("2 in placement 51", map.cell(0), 2);
        Check.same("2 in placement 51", map.cell(5), 2);
        Check.same("1 in placement 51", map.cell(6), 1);
        Check.same("1 in placement 51", map.cell(10), 1);
        Check.same("behind it", map.cell(11), -1);
    }

    private static void failureLeavesAll() {
        Check.sentence("what was PLACED before stays");
        MemoryMap map = new MemoryMap(20);
        map.region(0, 20, 7);
        map.section(5, 1, 0);
        map.section(4, 1, 0);
        map.place();
        map.section(19, 1, 0);
        Check.same("no address for 1", map.place(), -1);
        for (int address = 0; address < 20; address++) {
            Check.same("cell(" + address + ")", map.cell(address), address < 5 ? 1 : address < 9 ? 2 : -1);
        }
    }

    private static void newSectionsAndRegions() {
        Check.sentence("the SECTION that was PLACED there last");
        MemoryMap map = new MemoryMap(20);
        map.region(5, 5, 7);
        map.section(5, 1, 0);
        map.place();
        map.region(0, 5, 7);
        map.section(0, 1, 0);
        map.section(5, 1, 0);
        Check.same("not placed there yet", map.cell(0), -1);
        Check.same("the old one", map.cell(5), 1);
        map.place();
        Check.same("placed there", map.cell(0), 3);
        Check.same("the old one stays", map.cell(5), 1);
    }

    private static void exceptionChangesNothing() {
        Check.sentence("ArrayIndexOutOfBoundsException when that is none");
        MemoryMap map = new MemoryMap(20);
        map.region(5, 5, 7);
        map.section(5, 1, 0);
        map.place();
        for (int again = 0; again < 3; again++) {
            isNoAddress(map, 20);
            isNoAddress(map, -1);
            Check.same("there", map.cell(5), 1);
            Check.same("before it", map.cell(4), -1);
            Check.same("its address", map.at(1), 5);
            Check.same("the placement", map.moved(1), 0);
        }
    }
}
