/** Promise 2: region. */
public final class RegionTest {
    public static void main(String[] args) {
        numbersFromOneOn();
        shortestAndTooShort();
        longestAndTooLong();
        firstAddressAndBeforeIt();
        lastAddressAndBehindIt();
        onlyAnEndOutside();
        smallestMap();
        greatestMap();
        addressesBeyond32Bits();
        lengthsBeyond32Bits();
        endsThatWrapAround();
        rightsOnBothSides();
        regionsThatTouch();
        regionsThatOverlap();
        overlapWithAnyOfThem();
        sixteenAndOneMore();
        rangeComesBeforeOverlap();
        rangeComesBeforeRoom();
        overlapComesBeforeRoom();
        refusedOnesTakeNoAddresses();
        refusedOnesAreNoPlaceForSections();
        newOnesMoveNothing();
        Check.end();
    }

    private static void numbersFromOneOn() {
        Check.sentence("REGIONS, at most 16, numbered from 1 on");
        MemoryMap map = new MemoryMap(100);
        Check.same("the first", map.region(50, 10, 7), 1);
        Check.same("refused", map.region(50, 10, 7), -3);
        Check.same("the second", map.region(0, 10, 0), 2);
        Check.same("refused", map.region(0, 0, 7), -2);
        Check.same("the third", map.region(99, 1, 7), 3);
    }

    private static void shortestAndTooShort() {
        Check.sentence("-2 n below 1");
        MemoryMap map = new MemoryMap(100);
        Check.same("n 0", map.region(5, 0, 0), -2);
        Check.same("n 0 at address 0", map.region(0, 0, 0), -2);
        Check.same("n 0 behind the last address", map.region(100, 0, 0), -2);
        Check.same("n -1", map.region(5, -1, 0), -2);
        Check.same("n -5, from 5", map.region(5, -5, 0), -2);
        Check.same("n -100", map.region(99, -100, 0), -2);
        Check.same("n 1", map.region(5, 1, 0), 1);
        Check.same("n 1 again, there", map.region(5, 1, 0), -3);
        Check.same("n 2", map.region(6, 2, 0), 2);
    }

    private static void longestAndTooLong() {
        Check.sentence("or some of it is no ADDRESS");
        Check.same("all of them", new MemoryMap(100).region(0, 100, 0), 1);
        Check.same("all and one more", new MemoryMap(100).region(0, 101, 0), -2);
        Check.same("all but one", new MemoryMap(100).region(0, 99, 0), 1);
        Check.same("all but the first", new MemoryMap(100).region(1, 99, 0), 1);
        Check.same("all but the first and one more", new MemoryMap(100).region(1, 100, 0), -2);
    }

    private static void firstAddressAndBeforeIt() {
        Check.sentence("ADDRESSES are 0 .. SIZE - 1");
        MemoryMap map = new MemoryMap(100);
        Check.same("from -1", map.region(-1, 1, 0), -2);
        Check.same("from -100", map.region(-100, 1, 0), -2);
        Check.same("from 0", map.region(0, 1, 0), 1);
        Check.same("from 1", map.region(1, 1, 0), 2);
    }

    private static void lastAddressAndBehindIt() {
        Check.sentence("ADDRESSES are 0 .. SIZE - 1");
        MemoryMap map = new MemoryMap(100);
        Check.same("from 101", map.region(101, 1, 0), -2);
        Check.same("from 100", map.region(100, 1, 0), -2);
        Check.same("from 99", map.region(99, 1, 0), 1);
        Check.same("from 98", map.region(98, 1, 0), 2);
    }

    private static void onlyAnEndOutside() {
        Check.sentence("or some of it is no ADDRESS");
        MemoryMap map = new MemoryMap(100);
        Check.same("its first octet", map.region(-1, 2, 0), -2);
        Check.same("its first octets", map.region(-10, 100, 0), -2);
        Check.same("its last octet", map.region(99, 2, 0), -2);
        Check.same("its last octets", map.region(50, 100, 0), -2);
        Check.same("on both sides", map.region(-1, 102, 0), -2);
        Check.same("ends with the last address", map.region(90, 10, 0), 1);
    }

    private static void smallestMap() {
        Check.sentence("or some of it is no ADDRESS");
        MemoryMap map = new MemoryMap(1);
        Check.same("two octets", map.region(0, 2, 7), -2);
        Check.same("address 1", map.region(1, 1, 7), -2);
        Check.same("the only address", map.region(0, 1, 7), 1);
        Check.same("the only address again", map.region(0, 1, 7), -3);
    }

    private static void greatestMap() {
        Check.sentence("or some of it is no ADDRESS");
        Check.same("all of 65536", new MemoryMap(65536).region(0, 65536, 7), 1);
        Check.same("65537", new MemoryMap(65536).region(0, 65537, 7), -2);
        Check.same("the last address", new MemoryMap(65536).region(65535, 1, 7), 1);
        Check.same("behind it", new MemoryMap(65536).region(65536, 1, 7), -2);
        Check.same("over the end", new MemoryMap(65536).region(65535, 2, 7), -2);
    }

    private static void addressesBeyond32Bits() {
        Check.sentence("or some of it is no ADDRESS");
        for (long good : new long[] {0, 7, 99}) {
            MemoryMap map = new MemoryMap(100);
            for (long from : Far.longsLike(good)) {
                Check.same("from " + from, map.region(from, 1, 0), -2);
            }
            Check.same("nothing was made", map.region(0, 100, 0), 1);
        }
    }

    private static void lengthsBeyond32Bits() {
        Check.sentence("-2 n below 1, or some of it is no ADDRESS");
        for (long good : new long[] {1, 7, 100}) {
            MemoryMap map = new MemoryMap(100);
            for (long n : Far.longsLike(good)) {
                Check.same("n " + n + " from 0", map.region(0, n, 0), -2);
                Check.same("n " + n + " from 1", map.region(1, n, 0), -2);
            }
            Check.same("nothing was made", map.region(0, 100, 0), 1);
        }
    }

    private static void endsThatWrapAround() {
        Check.sentence("or some of it is no ADDRESS");
        MemoryMap map = new MemoryMap(100);
        Check.same("from + n is -2", map.region(Long.MAX_VALUE, Long.MAX_VALUE, 0), -2);
        Check.same("from + n is the least", map.region(Long.MAX_VALUE, 1, 0), -2);
        Check.same("from + n is the least, n greatest", map.region(1, Long.MAX_VALUE, 0), -2);
        Check.same("from + n - 1 is the least", map.region(2, Long.MAX_VALUE, 0), -2);
        Check.same("from + n is 1", map.region(Long.MAX_VALUE, Long.MIN_VALUE + 2, 0), -2);
        Check.same("from + n is 0", map.region(Long.MIN_VALUE, Long.MIN_VALUE, 0), -2);
        Check.same("from + n is 50", map.region(-4294967296L, 4294967346L, 0), -2);
        Check.same("from + n is 50 in 32 bits", map.region(2147483647L, 2147483699L, 0), -2);
        Check.same("size - n wraps around", map.region(0, Long.MIN_VALUE, 0), -2);
        Check.same("size - from wraps around", map.region(Long.MIN_VALUE, 100, 0), -2);
        Check.same("nothing was made", map.region(0, 100, 0), 1);
    }

    private static void rightsOnBothSides() {
        Check.sentence("or no such RIGHTS");
        MemoryMap map = new MemoryMap(100);
        Check.same("rights -1", map.region(0, 1, -1), -2);
        Check.same("rights 8", map.region(0, 1, 8), -2);
        Check.same("rights 15", map.region(0, 1, 15), -2);
        for (int good : new int[] {0, 3, 7}) {
            for (int rights : Far.intsLike(good)) {
                Check.same("rights " + rights, map.region(0, 1, rights), -2);
            }
        }
        Check.sentence("each has RIGHTS, 0 .. 7 (three bits)");
        for (int rights = 0; rights <= 7; rights++) {
            Check.same("rights " + rights, map.region(rights, 1, rights), rights + 1);
        }
    }

    private static void regionsThatTouch() {
        Check.sentence("REGIONS, at most 16, numbered from 1 on, do not overlap");
        MemoryMap map = new MemoryMap(100);
        Check.same("the first", map.region(40, 20, 1), 1);
        Check.same("ends before it", map.region(30, 10, 1), 2);
        Check.same("begins behind it", map.region(60, 10, 1), 3);
        Check.same("one octet before the second", map.region(29, 1, 1), 4);
        Check.same("one octet behind the third", map.region(70, 1, 1), 5);
    }

    private static void regionsThatOverlap() {
        Check.sentence("-3 it overlaps another one");
        MemoryMap map = new MemoryMap(100);
        map.region(40, 20, 1);
        Check.same("the same", map.region(40, 20, 1), -3);
        Check.same("the same with other rights", map.region(40, 20, 6), -3);
        Check.same("its first octet, from before", map.region(30, 11, 1), -3);
        Check.same("its last octet, to behind", map.region(59, 10, 1), -3);
        Check.same("its first octet alone", map.region(40, 1, 1), -3);
        Check.same("its last octet alone", map.region(59, 1, 1), -3);
        Check.same("inside it", map.region(45, 5, 1), -3);
        Check.same("all but its ends", map.region(41, 18, 1), -3);
        Check.same("round it", map.region(39, 22, 1), -3);
        Check.same("all addresses", map.region(0, 100, 1), -3);
        Check.same("the same start, longer", map.region(40, 21, 1), -3);
        Check.same("the same end, longer", map.region(39, 21, 1), -3);
        Check.same("none was made", map.region(60, 1, 1), 2);
    }

    private static void overlapWithAnyOfThem() {
        Check.sentence("-3 it overlaps another one");
        MemoryMap map = new MemoryMap(100);
        for (int r = 0; r < 15; r++) {
            map.region(6L * r, 3, 0);
        }
        for (int r = 0; r < 15; r++) {
            Check.same("the first octet of " + (r + 1), map.region(6L * r, 1, 0), -3);
            Check.same("the last octet of " + (r + 1), map.region(6L * r + 2, 2, 0), -3);
        }
        Check.same("over two of them", map.region(2, 5, 0), -3);
        Check.same("between two of them", map.region(3, 3, 0), 16);
    }

    private static MemoryMap withSixteen() {
        MemoryMap map = new MemoryMap(100);
        for (int r = 0; r < 16; r++) {
            Check.same("region " + (r + 1), map.region(2L * r, 1, 0), r + 1);
        }
        return map;
    }

    private static void sixteenAndOneMore() {
        Check.sentence("-4 there are 16");
        MemoryMap map = withSixteen();
        Check.same("a 17th", map.region(50, 10, 7), -4);
        Check.same("a 17th again", map.region(50, 10, 7), -4);
        Check.same("a 17th of one octet", map.region(1, 1, 0), -4);
        map.section(10, 1, 7);
        Check.same("a 17th is no place for a section", map.place(), -1);
        map = withSixteen();
        map.section(1, 30, 0);
        map.section(1, 30, 0);
        Check.same("the 16th is one", map.place(), 1);
        Check.same("address 30 is in the 16th", map.at(2), 30);
    }

    private static void rangeComesBeforeOverlap() {
        Check.sentence("REFUSALS change nothing and answer, the first that fits");
        MemoryMap map = new MemoryMap(100);
        map.region(0, 100, 0);
        Check.same("n 0 there", map.region(50, 0, 0), -2);
        Check.same("rights 8 there", map.region(50, 1, 8), -2);
        Check.same("rights -1 there", map.region(50, 1, -1), -2);
        Check.same("from there to behind the last address", map.region(50, 51, 0), -2);
        Check.same("from -1 to there", map.region(-1, 2, 0), -2);
        Check.same("only there", map.region(50, 50, 7), -3);
    }

    private static void rangeComesBeforeRoom() {
        Check.sentence("REFUSALS change nothing and answer, the first that fits");
        MemoryMap map = withSixteen();
        Check.same("n 0", map.region(50, 0, 0), -2);
        Check.same("rights 8", map.region(50, 1, 8), -2);
        Check.same("rights -1", map.region(50, 1, -1), -2);
        Check.same("from -1", map.region(-1, 1, 0), -2);
        Check.same("from 100", map.region(100, 1, 0), -2);
        Check.same("n too long", map.region(99, 2, 0), -2);
    }

    private static void overlapComesBeforeRoom() {
        Check.sentence("REFUSALS change nothing and answer, the first that fits");
        MemoryMap map = withSixteen();
        Check.same("over the first", map.region(0, 1, 0), -3);
        Check.same("over the last", map.region(30, 1, 0), -3);
        Check.same("over all", map.region(0, 100, 0), -3);
        Check.same("over none", map.region(31, 1, 0), -4);
    }

    private static void refusedOnesTakeNoAddresses() {
        Check.sentence("REFUSALS change nothing");
        MemoryMap map = new MemoryMap(100);
        map.region(50, 10, 0);
        Check.same("wrong rights", map.region(0, 20, 8), -2);
        Check.same("over the first", map.region(40, 20, 0), -3);
        Check.same("the addresses of the one", map.region(0, 20, 0), 2);
        Check.same("those of the other", map.region(40, 10, 0), 3);
        Check.same("behind the first", map.region(60, 40, 0), 4);
    }

    private static void refusedOnesAreNoPlaceForSections() {
        Check.sentence("REFUSALS change nothing");
        MemoryMap map = new MemoryMap(100);
        map.region(50, 10, 1);
        map.section(5, 1, 2);
        map.region(0, 20, -1);
        map.region(0, 101, 7);
        map.region(50, 10, 7);
        Check.same("no region has the rights", map.place(), -1);
        Check.same("a good one has", map.region(0, 20, 2), 2);
        Check.same("place", map.place(), 1);
        Check.same("there", map.at(1), 0);
    }

    private static void newOnesMoveNothing() {
        Check.sentence("A REGION from an address on, n long: its number");
        MemoryMap map = new MemoryMap(100);
        map.region(50, 10, 7);
        map.section(5, 1, 0);
        map.place();
        map.region(0, 10, 7);
        Check.same("the section is where it was", map.at(1), 50);
        Check.same("its cell", map.cell(54), 1);
        Check.same("the new region is empty", map.cell(0), -1);
        Check.same("no new placement", map.moved(2), -1);
    }
}
