/** Promises 4, 5, 12 and 13: place, at, cell, moved. */
public final class PlacingTest {
    public static void main(String[] args) {
        greatestFirstThenByNumbers();
        lengthZero();
        alignmentDividesTheAddress();
        gapsAreFilled();
        rightsNeedAllBits();
        regionsByNumbers();
        sectionsStayInOneRegion();
        noAddress();
        failureKeepsWhatWas();
        addressesOfSections();
        cells();
        cellsThatAreNone();
        lastPlacementTakesAllAnew();
        movedSections();
        firstFiftyAreKept();
        failedPlacingsAreNotNumbered();
        fullMap();
        Check.end();
    }

    private static void greatestFirstThenByNumbers() {
        MemoryMap map = new MemoryMap(100);
        map.region(0, 100, 7);
        map.section(5, 1, 0);
        map.section(10, 1, 0);
        map.section(5, 1, 0);
        map.section(20, 1, 0);
        map.section(10, 1, 0);
        Check.same("place", map.place(), 1);
        Check.same("greatest", map.at(4), 0);
        Check.same("first of length 10", map.at(2), 20);
        Check.same("second of length 10", map.at(5), 30);
        Check.same("first of length 5", map.at(1), 40);
        Check.same("second of length 5", map.at(3), 45);
    }

    private static void lengthZero() {
        MemoryMap map = new MemoryMap(10);
        map.section(0, 7, 7);
        Check.same("length 0 needs no region", map.place(), 1);
        Check.same("it is at 0", map.at(1), 0);
        Check.same("it takes nothing", map.cell(0), -1);
        map.region(0, 10, 0);
        map.section(10, 1, 0);
        map.section(0, 3, 7);
        Check.same("place with a full region", map.place(), 1);
        Check.same("at 0 too", map.at(2), 0);
        Check.same("and this one", map.at(3), 0);
        Check.same("cell 0", map.cell(0), 2);
    }

    private static void alignmentDividesTheAddress() {
        MemoryMap map = new MemoryMap(65536);
        map.region(5, 100, 7);
        map.section(10, 8, 0);
        map.section(9, 7, 0);
        map.section(8, 65536, 0);
        Check.same("no address for alignment 65536", map.place(), -3);
        map.region(0, 5, 7);
        Check.same("8 do not fit into 5", map.place(), -3);
        MemoryMap low = new MemoryMap(65536);
        low.region(5, 100, 7);
        low.region(0, 5, 7);
        low.section(10, 8, 0);
        low.section(9, 7, 0);
        low.section(5, 65536, 0);
        Check.same("place", low.place(), 1);
        Check.same("8 divides 8, not 5", low.at(1), 8);
        Check.same("7 divides 21, behind the first", low.at(2), 21);
        Check.same("65536 divides 0", low.at(3), 0);
    }

    private static void gapsAreFilled() {
        MemoryMap map = new MemoryMap(100);
        map.region(1, 60, 7);
        map.section(20, 16, 0);
        map.section(12, 1, 0);
        map.section(4, 4, 0);
        map.section(3, 1, 0);
        map.section(3, 1, 0);
        Check.same("place", map.place(), 1);
        Check.same("behind 16", map.at(1), 16);
        Check.same("before it", map.at(2), 1);
        Check.same("aligned, behind the greatest", map.at(3), 36);
        Check.same("the gap's rest", map.at(4), 13);
        Check.same("no more gap", map.at(5), 40);
    }

    private static void rightsNeedAllBits() {
        for (int rights = 0; rights <= 7; rights++) {
            for (int kind = 0; kind <= 7; kind++) {
                MemoryMap map = new MemoryMap(10);
                map.region(2, 5, rights);
                map.section(1, 1, kind);
                boolean fits = (rights | kind) == rights;
                Check.same("rights " + rights + " kind " + kind, map.place(), fits ? 1 : -1);
                Check.same("its address", map.at(1), fits ? 2 : -3);
            }
        }
    }

    private static void regionsByNumbers() {
        MemoryMap map = new MemoryMap(100);
        map.region(50, 10, 7);
        map.region(0, 10, 7);
        map.section(6, 1, 1);
        map.section(5, 1, 1);
        map.section(4, 1, 1);
        Check.same("place", map.place(), 1);
        Check.same("the first region, though higher", map.at(1), 50);
        Check.same("no room there", map.at(2), 0);
        Check.same("room there again", map.at(3), 56);
    }

    private static void sectionsStayInOneRegion() {
        MemoryMap map = new MemoryMap(100);
        map.region(0, 5, 7);
        map.region(5, 5, 7);
        map.section(6, 1, 0);
        Check.same("two regions that touch are not one", map.place(), -1);
        map.region(10, 6, 7);
        Check.same("exactly as long as the region", map.place(), 1);
        Check.same("its address", map.at(1), 10);
    }

    private static void noAddress() {
        MemoryMap map = new MemoryMap(100);
        Check.same("no section at all", map.place(), 1);
        map.section(1, 1, 0);
        Check.same("no region", map.place(), -1);
        map.region(0, 20, 0);
        map.section(15, 1, 0);
        map.section(10, 1, 0);
        map.section(10, 1, 0);
        Check.same("the first in order, not in number", map.place(), -3);
        map.section(30, 1, 0);
        Check.same("the greatest", map.place(), -5);
        map.section(40, 1, 0);
        Check.same("the greater", map.place(), -6);
    }

    private static void failureKeepsWhatWas() {
        MemoryMap map = new MemoryMap(100);
        map.region(0, 20, 0);
        map.section(5, 1, 0);
        Check.same("place", map.place(), 1);
        map.section(10, 1, 0);
        map.section(6, 1, 0);
        Check.same("no place for 1 now", map.place(), -1);
        Check.same("1 stays", map.at(1), 0);
        Check.same("2 was not placed", map.at(2), -3);
        Check.same("3 was not placed", map.at(3), -3);
        Check.same("cell 0 stays", map.cell(0), 1);
        Check.same("cell 5 stays", map.cell(5), -1);
        Check.same("moved", map.moved(1), 0);
        Check.same("no second placement", map.moved(2), -1);
        map.region(20, 5, 0);
        Check.same("there is place", map.place(), 1);
        Check.same("1 moved", map.at(1), 20);
        Check.same("moved from the first", map.moved(1), 1);
        Check.same("moved from the second", map.moved(2), 0);
    }

    private static void addressesOfSections() {
        MemoryMap map = new MemoryMap(100);
        map.region(3, 50, 7);
        Check.same("at(0)", map.at(0), -1);
        Check.same("at(-1)", map.at(-1), -1);
        Check.same("at(the least)", map.at(Integer.MIN_VALUE), -1);
        Check.same("at(the greatest)", map.at(Integer.MAX_VALUE), -1);
        map.section(4, 1, 0);
        Check.same("not placed yet", map.at(1), -3);
        map.place();
        Check.same("placed", map.at(1), 3);
        map.section(4, 1, 0);
        Check.same("a new one is not placed", map.at(2), -3);
        Check.same("none", map.at(3), -1);
        map.place();
        Check.same("placed too", map.at(2), 7);
    }

    private static void cells() {
        MemoryMap map = new MemoryMap(100);
        map.region(10, 30, 7);
        map.section(4, 1, 0);
        map.section(6, 8, 0);
        Check.same("before a placing", map.cell(16), -1);
        map.place();
        Check.same("before the region", map.cell(9), -1);
        Check.same("first octet of 1", map.cell(10), 1);
        Check.same("last octet of 1", map.cell(13), 1);
        Check.same("behind 1", map.cell(14), -1);
        Check.same("before 2", map.cell(15), -1);
        Check.same("first octet of 2", map.cell(16), 2);
        Check.same("last octet of 2", map.cell(21), 2);
        Check.same("behind 2", map.cell(22), -1);
        Check.same("outside all regions", map.cell(99), -1);
    }

    private static void cellsThatAreNone() {
        MemoryMap map = new MemoryMap(100);
        long[] none = {-1, 100, 101, 4294967296L, 4294967306L, Long.MAX_VALUE, Long.MIN_VALUE};
        for (long address : none) {
            Check.throwsExactly("cell(" + address + ")", ArrayIndexOutOfBoundsException.class,
                    () -> map.cell(address));
        }
    }

    private static void lastPlacementTakesAllAnew() {
        MemoryMap map = new MemoryMap(100);
        map.region(3, 30, 7);
        map.section(10, 1, 0);
        map.place();
        Check.same("1 is at 3", map.cell(3), 1);
        map.section(12, 8, 0);
        map.place();
        Check.same("2 is at 8", map.at(2), 8);
        Check.same("1 is behind it", map.at(1), 20);
        Check.same("1 is not at 3 any more", map.cell(3), -1);
        Check.same("2 is where 1 was", map.cell(8), 2);
        Check.same("1 is there now", map.cell(29), 1);
    }

    private static void movedSections() {
        MemoryMap map = new MemoryMap(100);
        Check.same("before a placing", map.moved(1), -1);
        map.region(0, 100, 7);
        map.section(0, 1, 0);
        map.section(5, 1, 0);
        map.section(5, 1, 0);
        map.place();
        map.section(3, 1, 0);
        map.place();
        Check.same("a new one is not counted", map.moved(1), 0);
        map.section(7, 1, 0);
        map.place();
        Check.same("all but that of length 0", map.moved(1), 2);
        Check.same("one more in the second", map.moved(2), 3);
        Check.same("the last with itself", map.moved(3), 0);
        Check.same("moved(4)", map.moved(4), -1);
        Check.same("moved(0)", map.moved(0), -1);
        Check.same("moved(-1)", map.moved(-1), -1);
        Check.same("moved(the least)", map.moved(Integer.MIN_VALUE), -1);
        Check.same("moved(the greatest)", map.moved(Integer.MAX_VALUE), -1);
        map.section(5, 1, 0);
        map.place();
        Check.same("those of the third stay but the shorter", map.moved(3), 1);
    }

    private static void firstFiftyAreKept() {
        MemoryMap map = new MemoryMap(100);
        map.region(0, 100, 7);
        map.section(5, 1, 0);
        for (int p = 1; p <= 49; p++) {
            Check.same("placement " + p, map.place(), 1);
        }
        Check.same("49 is kept", map.moved(49), 0);
        Check.same("50 is not there", map.moved(50), -1);
        map.place();
        Check.same("50 is kept", map.moved(50), 0);
        map.section(6, 1, 0);
        Check.same("51 is made all the same", map.place(), 1);
        Check.same("51 is where 1 is now", map.at(1), 6);
        Check.same("51 is where 2 is now", map.cell(0), 2);
        Check.same("51 is not kept", map.moved(51), -1);
        Check.same("50 against 51", map.moved(50), 1);
        Check.same("1 against 51", map.moved(1), 1);
        map.section(50, 1, 0);
        map.place();
        Check.same("50 against 52", map.moved(50), 1);
        Check.same("52 is where 3 is now", map.cell(49), 3);
        Check.same("52 is not kept", map.moved(52), -1);
    }

    private static void failedPlacingsAreNotNumbered() {
        MemoryMap map = new MemoryMap(100);
        map.section(5, 1, 0);
        for (int p = 1; p <= 60; p++) {
            Check.same("no region", map.place(), -1);
        }
        Check.same("no placement", map.moved(1), -1);
        map.region(0, 5, 0);
        Check.same("place", map.place(), 1);
        Check.same("the first placement", map.moved(1), 0);
        Check.same("no second one", map.moved(2), -1);
    }

    private static void fullMap() {
        MemoryMap map = new MemoryMap(65536);
        map.region(0, 65536, 7);
        map.section(65536, 65536, 7);
        Check.same("place", map.place(), 1);
        Check.same("at 0", map.at(1), 0);
        Check.same("the last address", map.cell(65535), 1);
        map.section(1, 1, 0);
        Check.same("no octet is free", map.place(), -2);
    }
}
