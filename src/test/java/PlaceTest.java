/** Promise 4: place, and the sentences on PLACING. */
public final class PlaceTest {
    public static void main(String[] args) {
        nothingToPlace();
        sectionsButNoRegion();
        greatestFirst();
        ofOneLengthByNumbers();
        lengthsThatDifferByOne();
        lengthZeroIsAtZero();
        lengthZeroTakesNothing();
        lengthZeroNeverFails();
        lengthOneIsNoLengthZero();
        regionStartsOnAnAlignedAddress();
        regionStartsBesideAnAlignedAddress();
        alignmentOne();
        alignmentsThatAreNoPowerOfTwo();
        greatestAlignment();
        alignmentLeavesJustEnough();
        exactlyAsLongAsTheRegion();
        wholeMap();
        smallestMap();
        regionsThatTouchAreNotOne();
        rightsNeedAllBits();
        gapJustWideEnough();
        gapWithAnAlignedAddress();
        gapsOneBehindTheOther();
        noOctetIsTakenTwice();
        firstRegionByNumbers();
        firstRegionWithRoom();
        firstRegionWithRights();
        sixteenthRegion();
        noAddressForTheFirstInOrder();
        noAddressForTheLastInOrder();
        noAddressForTheFortieth();
        ofOneLengthTheFirstThatDoesNotFit();
        nothingIsPlacedAnew();
        failureAfterAll();
        failuresTakeNoNumber();
        failureForgetsItsTrial();
        placingAgain();
        fortySections();
        Check.end();
    }

    private static MemoryMap withRegion(long from, long n) {
        MemoryMap map = new MemoryMap(65536);
        map.region(from, n, 7);
        return map;
    }

    private static void nothingToPlace() {
        Check.sentence("PLACING: 1");
        MemoryMap map = new MemoryMap(100);
        Check.same("no section, no region", map.place(), 1);
        Check.same("that is a placement", map.moved(1), 0);
        Check.same("the only one", map.moved(2), -1);
        map.region(0, 100, 7);
        Check.same("no section", map.place(), 1);
        Check.same("that is one, too", map.moved(2), 0);
        Check.same("nothing is anywhere", map.cell(0), -1);
    }

    private static void sectionsButNoRegion() {
        Check.sentence("or minus the SECTION for which there is no address");
        MemoryMap map = new MemoryMap(100);
        map.section(1, 1, 0);
        Check.same("no region", map.place(), -1);
        Check.same("nothing was placed", map.at(1), -3);
        Check.same("no placement", map.moved(1), -1);
        map.region(99, 1, 0);
        Check.same("a region", map.place(), 1);
        Check.same("there", map.at(1), 99);
    }

    private static void greatestFirst() {
        Check.sentence("SECTIONS in the order of their LENGTHS, the greatest first");
        MemoryMap map = withRegion(0, 100);
        map.section(1, 1, 0);
        map.section(30, 1, 0);
        map.section(2, 1, 0);
        map.section(20, 1, 0);
        Check.same("place", map.place(), 1);
        Check.same("length 30", map.at(2), 0);
        Check.same("length 20", map.at(4), 30);
        Check.same("length 2", map.at(3), 50);
        Check.same("length 1", map.at(1), 52);
    }

    private static void ofOneLengthByNumbers() {
        Check.sentence("of one LENGTH by numbers");
        MemoryMap map = withRegion(0, 1000);
        for (int s = 1; s <= 40; s++) {
            map.section(s % 2 == 0 ? 10 : 20, 1, 0);
        }
        Check.same("place", map.place(), 1);
        for (int s = 1; s <= 40; s++) {
            Check.same("section " + s, map.at(s), s % 2 == 0 ? 400 + (s / 2 - 1) * 10 : (s - 1) / 2 * 20);
        }
    }

    private static void lengthsThatDifferByOne() {
        Check.sentence("SECTIONS in the order of their LENGTHS, the greatest first");
        MemoryMap map = withRegion(0, 1000);
        map.section(10, 1, 0);
        map.section(11, 1, 0);
        map.section(9, 1, 0);
        map.section(10, 1, 0);
        Check.same("place", map.place(), 1);
        Check.same("11", map.at(2), 0);
        Check.same("the first of 10", map.at(1), 11);
        Check.same("the second of 10", map.at(4), 21);
        Check.same("9", map.at(3), 31);
    }

    private static void lengthZeroIsAtZero() {
        Check.sentence("One of LENGTH 0 is at 0");
        MemoryMap map = withRegion(50, 10);
        map.section(0, 1, 0);
        map.section(0, 65536, 7);
        map.section(0, 7, 3);
        Check.same("place", map.place(), 1);
        for (int s = 1; s <= 3; s++) {
            Check.same("section " + s, map.at(s), 0);
        }
    }

    private static void lengthZeroTakesNothing() {
        Check.sentence("without taking anything");
        MemoryMap map = withRegion(0, 1);
        map.section(0, 1, 0);
        map.section(1, 1, 0);
        map.section(0, 1, 0);
        Check.same("place", map.place(), 1);
        Check.same("address 0 is free for another", map.at(2), 0);
        Check.same("that is what is there", map.cell(0), 2);
        MemoryMap alone = withRegion(0, 1);
        alone.section(0, 1, 0);
        alone.place();
        Check.same("alone it is in no cell", alone.cell(0), -1);
    }

    private static void lengthZeroNeverFails() {
        Check.sentence("One of LENGTH 0 is at 0");
        MemoryMap none = new MemoryMap(100);
        none.section(0, 7, 7);
        Check.same("no region", none.place(), 1);
        Check.same("it is at 0", none.at(1), 0);
        MemoryMap full = withRegion(0, 10);
        full.section(10, 1, 0);
        full.section(0, 1, 0);
        Check.same("no octet is free", full.place(), 1);
        Check.same("it is at 0", full.at(2), 0);
        MemoryMap rights = new MemoryMap(100);
        rights.region(0, 100, 0);
        rights.section(0, 1, 7);
        Check.same("no region has the rights", rights.place(), 1);
        Check.same("it is at 0", rights.at(1), 0);
    }

    private static void lengthOneIsNoLengthZero() {
        Check.sentence("Each other one comes to the least address");
        MemoryMap map = withRegion(50, 1);
        map.section(1, 1, 0);
        map.section(1, 1, 0);
        Check.same("one octet for two", map.place(), -2);
    }

    private static void isPlacedAt(String what, long from, long n, long length, long align, long due) {
        MemoryMap map = withRegion(from, n);
        map.section(length, align, 0);
        Check.same(what + ": place", map.place(), due < 0 ? -1 : 1);
        Check.same(what + ": at", map.at(1), due);
    }

    private static void regionStartsOnAnAlignedAddress() {
        Check.sentence("the least address that its ALIGNMENT divides");
        isPlacedAt("from 64", 64, 100, 10, 64, 64);
        isPlacedAt("from 0", 0, 100, 10, 64, 0);
        isPlacedAt("from 128", 128, 100, 10, 64, 128);
    }

    private static void regionStartsBesideAnAlignedAddress() {
        Check.sentence("the least address that its ALIGNMENT divides");
        isPlacedAt("from 63", 63, 100, 10, 64, 64);
        isPlacedAt("from 65", 65, 100, 10, 64, 128);
        isPlacedAt("from 1", 1, 100, 10, 64, 64);
    }

    private static void alignmentOne() {
        Check.sentence("the least address that its ALIGNMENT divides");
        isPlacedAt("from 0", 0, 10, 10, 1, 0);
        isPlacedAt("from 1", 1, 10, 10, 1, 1);
        isPlacedAt("from 65535", 65535, 1, 1, 1, 65535);
    }

    private static void alignmentsThatAreNoPowerOfTwo() {
        Check.sentence("the least address that its ALIGNMENT divides");
        isPlacedAt("3 divides 21", 20, 10, 5, 3, 21);
        isPlacedAt("7 divides 21", 20, 10, 5, 7, 21);
        isPlacedAt("100 divides 100", 1, 200, 5, 100, 100);
        isPlacedAt("65535 divides 65535", 1, 65535, 1, 65535, 65535);
        isPlacedAt("65535 divides no other", 1, 65534, 1, 65535, -3);
        isPlacedAt("65535 at the end, two octets", 1, 65535, 2, 65535, -3);
    }

    private static void greatestAlignment() {
        Check.sentence("the least address that its ALIGNMENT divides");
        isPlacedAt("65536 divides 0", 0, 65536, 65536, 65536, 0);
        isPlacedAt("65536 divides no other", 1, 65535, 1, 65536, -3);
        isPlacedAt("32768 divides 32768", 1, 65535, 32768, 32768, 32768);
        isPlacedAt("one octet more behind it", 1, 65535, 32769, 32768, -3);
        MemoryMap map = withRegion(0, 65536);
        map.section(1, 65536, 0);
        map.section(1, 65536, 0);
        Check.same("address 0 is there once", map.place(), -2);
    }

    private static void alignmentLeavesJustEnough() {
        Check.sentence("where all of it is in one REGION");
        isPlacedAt("16 to 20", 10, 10, 4, 16, 16);
        isPlacedAt("one octet too long", 10, 10, 5, 16, -3);
        isPlacedAt("the region's last octet", 10, 7, 1, 16, 16);
        isPlacedAt("the region ends before it", 10, 6, 1, 16, -3);
    }

    private static void exactlyAsLongAsTheRegion() {
        Check.sentence("where all of it is in one REGION");
        isPlacedAt("one octet", 50, 1, 1, 1, 50);
        isPlacedAt("two for one", 50, 1, 2, 1, -3);
        isPlacedAt("one shorter", 50, 10, 9, 1, 50);
        isPlacedAt("as long", 50, 10, 10, 1, 50);
        isPlacedAt("one longer", 50, 10, 11, 1, -3);
    }

    private static void wholeMap() {
        Check.sentence("where all of it is in one REGION");
        MemoryMap map = withRegion(0, 65536);
        map.section(65536, 65536, 7);
        Check.same("place", map.place(), 1);
        Check.same("at 0", map.at(1), 0);
        Check.same("its first octet", map.cell(0), 1);
        Check.same("its last octet", map.cell(65535), 1);
        map.section(1, 1, 0);
        Check.same("no octet is free", map.place(), -2);
        isPlacedAt("one octet short", 0, 65535, 65536, 1, -3);
        isPlacedAt("one octet short, at the start", 1, 65535, 65536, 1, -3);
        isPlacedAt("all but one", 1, 65535, 65535, 1, 1);
    }

    private static void smallestMap() {
        Check.sentence("where all of it is in one REGION");
        MemoryMap map = new MemoryMap(1);
        map.region(0, 1, 7);
        map.section(1, 65536, 7);
        Check.same("place", map.place(), 1);
        Check.same("at 0", map.at(1), 0);
        Check.same("there", map.cell(0), 1);
        map.section(1, 1, 0);
        Check.same("no second one", map.place(), -2);
    }

    private static void regionsThatTouchAreNotOne() {
        Check.sentence("where all of it is in one REGION");
        MemoryMap map = new MemoryMap(100);
        map.region(0, 5, 7);
        map.region(5, 5, 7);
        map.section(6, 1, 0);
        Check.same("over both", map.place(), -1);
        map.region(10, 6, 7);
        Check.same("a third is long enough", map.place(), 1);
        Check.same("there", map.at(1), 10);
        MemoryMap two = new MemoryMap(100);
        two.region(0, 5, 7);
        two.region(5, 5, 7);
        two.section(3, 1, 0);
        two.section(3, 1, 0);
        Check.same("one in each", two.place(), 1);
        Check.same("not at 3, over both", two.at(2), 5);
    }

    private static void rightsNeedAllBits() {
        Check.sentence("the RIGHTS that it needs, all bits of it");
        for (int rights = 0; rights <= 7; rights++) {
            for (int kind = 0; kind <= 7; kind++) {
                MemoryMap map = new MemoryMap(10);
                map.region(2, 5, rights);
                map.section(1, 1, kind);
                boolean fits = (rights | kind) == rights;
                Check.same("rights " + rights + ", kind " + kind, map.place(), fits ? 1 : -1);
                Check.same("its address", map.at(1), fits ? 2 : -3);
            }
        }
    }

    /** Section 1 comes to 16 .. 35, and leaves 1 .. 15 before it and 36 on behind it. */
    private static MemoryMap withGap() {
        MemoryMap map = withRegion(1, 100);
        map.section(20, 16, 0);
        return map;
    }

    private static void gapJustWideEnough() {
        Check.sentence("no octet is taken by one before it");
        MemoryMap exact = withGap();
        exact.section(15, 1, 0);
        Check.same("place", exact.place(), 1);
        Check.same("as wide as the gap", exact.at(2), 1);
        MemoryMap wider = withGap();
        wider.section(16, 1, 0);
        Check.same("place", wider.place(), 1);
        Check.same("one octet too wide", wider.at(2), 36);
        MemoryMap two = withGap();
        two.section(8, 1, 0);
        two.section(7, 1, 0);
        two.section(1, 1, 0);
        Check.same("place", two.place(), 1);
        Check.same("the first in the gap", two.at(2), 1);
        Check.same("the second in the gap", two.at(3), 9);
        Check.same("no octet is left there", two.at(4), 36);
    }

    private static void gapWithAnAlignedAddress() {
        Check.sentence("the least address that its ALIGNMENT divides");
        MemoryMap fits = withGap();
        fits.section(8, 8, 0);
        Check.same("place", fits.place(), 1);
        Check.same("8 to 16", fits.at(2), 8);
        MemoryMap longer = withGap();
        longer.section(9, 8, 0);
        Check.same("place", longer.place(), 1);
        Check.same("8 to 17 is taken", longer.at(2), 40);
        MemoryMap ends = withGap();
        ends.section(12, 12, 0);
        Check.same("place", ends.place(), 1);
        Check.same("36 is the first octet behind", ends.at(2), 36);
        MemoryMap next = withGap();
        next.section(12, 35, 0);
        Check.same("place", next.place(), 1);
        Check.same("35 is still taken", next.at(2), 70);
    }

    private static void gapsOneBehindTheOther() {
        Check.sentence("no octet is taken by one before it");
        MemoryMap map = withRegion(1, 100);
        map.section(14, 16, 0);
        map.section(13, 16, 0);
        map.section(12, 16, 0);
        map.section(4, 1, 0);
        map.section(4, 8, 0);
        map.section(4, 8, 0);
        map.section(4, 15, 0);
        Check.same("place", map.place(), 1);
        Check.same("first", map.at(1), 16);
        Check.same("second", map.at(2), 32);
        Check.same("third", map.at(3), 48);
        Check.same("before the first", map.at(4), 1);
        Check.same("8 to 12", map.at(5), 8);
        Check.same("behind all gaps that 8 does not divide", map.at(6), 64);
        Check.same("over 15, 30 to 45 and 60 to 64", map.at(7), 60);
    }

    private static void noOctetIsTakenTwice() {
        Check.sentence("no octet is taken by one before it");
        MemoryMap map = withRegion(3, 200);
        int[] lengths = {1, 9, 4, 17, 9, 2, 30, 5, 1, 12};
        int[] aligns = {5, 4, 10, 32, 1, 3, 7, 5, 2, 6};
        for (int s = 0; s < lengths.length; s++) {
            map.section(lengths[s], aligns[s], 0);
        }
        Check.same("place", map.place(), 1);
        int octets = 0;
        for (int address = 0; address < 203; address++) {
            octets += map.cell(address) == -1 ? 0 : 1;
        }
        Check.same("octets in all", octets, 90);
        for (int s = 1; s <= lengths.length; s++) {
            Check.same("the alignment of " + s, map.at(s) % aligns[s - 1], 0);
            Check.same("the first octet of " + s, map.cell(map.at(s)), s);
            Check.same("the last octet of " + s, map.cell(map.at(s) + lengths[s - 1] - 1), s);
        }
    }

    private static void firstRegionByNumbers() {
        Check.sentence("of the REGIONS by numbers the first one in which there is such an address");
        MemoryMap map = new MemoryMap(100);
        map.region(50, 10, 7);
        map.region(0, 10, 7);
        map.region(90, 10, 7);
        map.section(10, 1, 0);
        map.section(10, 1, 0);
        map.section(10, 1, 0);
        Check.same("place", map.place(), 1);
        Check.same("the first region", map.at(1), 50);
        Check.same("the second, though lower", map.at(2), 0);
        Check.same("the third", map.at(3), 90);
    }

    private static void firstRegionWithRoom() {
        Check.sentence("of the REGIONS by numbers the first one in which there is such an address");
        MemoryMap map = new MemoryMap(100);
        map.region(50, 10, 7);
        map.region(0, 10, 7);
        map.section(6, 1, 0);
        map.section(5, 1, 0);
        map.section(4, 1, 0);
        map.section(1, 1, 0);
        Check.same("place", map.place(), 1);
        Check.same("the first region", map.at(1), 50);
        Check.same("one octet too long for its rest", map.at(2), 0);
        Check.same("as long as its rest", map.at(3), 56);
        Check.same("it is full", map.at(4), 5);
        MemoryMap aligned = new MemoryMap(100);
        aligned.region(65, 10, 7);
        aligned.region(0, 10, 7);
        aligned.section(2, 64, 0);
        Check.same("place", aligned.place(), 1);
        Check.same("64 divides nothing in the first region", aligned.at(1), 0);
    }

    private static void firstRegionWithRights() {
        Check.sentence("where all of it is in one REGION that has the RIGHTS");
        MemoryMap map = new MemoryMap(100);
        map.region(0, 10, 1);
        map.region(10, 10, 2);
        map.region(20, 10, 3);
        map.section(5, 1, 3);
        map.section(5, 1, 2);
        map.section(5, 1, 0);
        map.section(5, 1, 2);
        map.section(5, 1, 2);
        Check.same("place", map.place(), 1);
        Check.same("needs 3", map.at(1), 20);
        Check.same("needs 2", map.at(2), 10);
        Check.same("needs nothing", map.at(3), 0);
        Check.same("needs 2, behind the other", map.at(4), 15);
        Check.same("needs 2, in the one with 3", map.at(5), 25);
        map.section(5, 1, 2);
        Check.same("room in the first only, without the rights", map.place(), -6);
    }

    private static void sixteenthRegion() {
        Check.sentence("of the REGIONS by numbers the first one in which there is such an address");
        MemoryMap map = new MemoryMap(100);
        for (int r = 15; r >= 0; r--) {
            map.region(5L * r, 5, 7);
        }
        for (int s = 0; s < 16; s++) {
            map.section(5, 1, 0);
        }
        Check.same("place", map.place(), 1);
        Check.same("the first region", map.at(1), 75);
        Check.same("the 16th", map.at(16), 0);
        map.section(5, 1, 0);
        Check.same("no 17th", map.place(), -17);
    }

    private static void noAddressForTheFirstInOrder() {
        Check.sentence("minus the SECTION for which there is no address");
        MemoryMap map = withRegion(0, 20);
        map.section(1, 1, 0);
        map.section(21, 1, 0);
        map.section(2, 1, 0);
        Check.same("the greatest", map.place(), -2);
        map.section(22, 1, 0);
        Check.same("a greater one comes first", map.place(), -4);
        map.section(22, 1, 0);
        Check.same("one as great comes later", map.place(), -4);
    }

    private static void noAddressForTheLastInOrder() {
        Check.sentence("minus the SECTION for which there is no address");
        MemoryMap map = withRegion(0, 20);
        map.section(1, 1, 0);
        map.section(15, 1, 0);
        map.section(5, 1, 0);
        Check.same("the smallest", map.place(), -1);
        Check.same("nothing was placed of those before it", map.at(2), -3);
        Check.same("nor there", map.cell(0), -1);
        map.region(20, 1, 7);
        Check.same("one octet more", map.place(), 1);
        Check.same("there", map.at(1), 20);
    }

    private static void noAddressForTheFortieth() {
        Check.sentence("minus the SECTION for which there is no address");
        MemoryMap map = withRegion(0, 39);
        for (int s = 1; s <= 40; s++) {
            map.section(1, 1, 0);
        }
        Check.same("39 octets for 40", map.place(), -40);
        map.region(39, 1, 0);
        Check.same("40 octets for 40", map.place(), 1);
        Check.same("the 40th", map.at(40), 39);
    }

    private static void ofOneLengthTheFirstThatDoesNotFit() {
        Check.sentence("of one LENGTH by numbers");
        MemoryMap map = withRegion(0, 25);
        map.section(3, 1, 0);
        map.section(10, 1, 0);
        map.section(10, 1, 0);
        map.section(10, 1, 0);
        map.section(10, 1, 0);
        Check.same("the third of length 10", map.place(), -4);
    }

    private static void nothingIsPlacedAnew() {
        Check.sentence("nothing is PLACED anew: what was PLACED before stays");
        MemoryMap map = withRegion(0, 20);
        map.section(5, 1, 0);
        map.section(0, 1, 0);
        map.place();
        map.section(10, 1, 0);
        map.section(6, 1, 0);
        Check.same("no address for 1", map.place(), -1);
        Check.same("1 stays", map.at(1), 0);
        Check.same("2 stays", map.at(2), 0);
        Check.same("3 was not placed", map.at(3), -3);
        Check.same("4 was not placed", map.at(4), -3);
        for (int address = 0; address < 20; address++) {
            Check.same("cell(" + address + ") stays", map.cell(address), address < 5 ? 1 : -1);
        }
        Check.same("nothing moved", map.moved(1), 0);
        Check.same("no second placement", map.moved(2), -1);
    }

    private static void failureAfterAll() {
        Check.sentence("what was PLACED before stays");
        MemoryMap map = withRegion(0, 10);
        map.section(10, 1, 0);
        for (int p = 1; p <= 51; p++) {
            Check.same("placement " + p, map.place(), 1);
        }
        map.section(11, 1, 0);
        Check.same("no address", map.place(), -2);
        Check.same("the first stays", map.at(1), 0);
        Check.same("the second was not placed", map.at(2), -3);
        Check.same("its last cell stays", map.cell(9), 1);
        Check.same("50 is kept", map.moved(50), 0);
        Check.same("51 is not", map.moved(51), -1);
    }

    private static void failuresTakeNoNumber() {
        Check.sentence("Otherwise that is the next PLACEMENT, numbered from 1 on");
        MemoryMap map = new MemoryMap(100);
        map.section(5, 1, 0);
        for (int p = 1; p <= 60; p++) {
            Check.same("no region", map.place(), -1);
        }
        Check.same("no placement", map.moved(1), -1);
        map.region(10, 5, 0);
        Check.same("place", map.place(), 1);
        Check.same("the first placement", map.moved(1), 0);
        Check.same("no second one", map.moved(2), -1);
        Check.same("there", map.at(1), 10);
    }

    private static void failureForgetsItsTrial() {
        Check.sentence("nothing is PLACED anew");
        MemoryMap map = withRegion(0, 20);
        map.section(15, 1, 0);
        map.section(6, 1, 0);
        Check.same("no address for 2", map.place(), -2);
        Check.same("again", map.place(), -2);
        map.region(30, 6, 7);
        Check.same("what the trial took is free again", map.place(), 1);
        Check.same("section 1", map.at(1), 0);
        Check.same("section 2", map.at(2), 30);
        Check.same("the first placement", map.moved(1), 0);
        Check.same("no second", map.moved(2), -1);
    }

    private static void placingAgain() {
        Check.sentence("no octet is taken by one before it");
        MemoryMap map = withRegion(0, 20);
        map.section(12, 1, 0);
        map.section(8, 1, 0);
        for (int p = 1; p <= 5; p++) {
            Check.same("a full map once more", map.place(), 1);
            Check.same("section 1", map.at(1), 0);
            Check.same("section 2", map.at(2), 12);
        }
    }

    private static void fortySections() {
        Check.sentence("SECTIONS, at most 40");
        MemoryMap map = withRegion(100, 820);
        for (int s = 1; s <= 40; s++) {
            map.section(s, 1, 0);
        }
        Check.same("820 octets for 820", map.place(), 1);
        int due = 100;
        for (int s = 40; s >= 1; s--) {
            Check.same("section " + s, map.at(s), due);
            due += s;
        }
        Check.same("the last octet", map.cell(919), 1);
        Check.same("behind it", map.cell(920), -1);
    }
}
