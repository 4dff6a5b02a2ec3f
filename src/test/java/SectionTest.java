/** Promise 3: section. */
public final class SectionTest {
    public static void main(String[] args) {
        numbersFromOneOn();
        lengthsOnBothSides();
        alignmentsOnBothSides();
        kindsOnBothSides();
        lengthsBeyond32Bits();
        alignmentsBeyond32Bits();
        lengthsBeyondTheMap();
        fortyAndOneMore();
        rangeComesBeforeRoom();
        alignmentZero();
        alignmentZeroAndAnotherOutside();
        alignmentZeroAndRoomForOne();
        alignmentZeroAndNoRoom();
        refusedOnesAreNotPlaced();
        newOnesPlaceNothing();
        Check.end();
    }

    private static void numbersFromOneOn() {
        Check.sentence("SECTIONS, at most 40, numbered from 1 on");
        MemoryMap map = new MemoryMap(100);
        Check.same("the first", map.section(5, 1, 0), 1);
        Check.same("refused", map.section(-1, 1, 0), -2);
        Check.same("the second", map.section(5, 1, 0), 2);
        Check.throwsExactly("alignment 0", ArithmeticException.class, () -> map.section(5, 0, 0));
        Check.same("the third", map.section(0, 1, 0), 3);
        Check.same("no fourth", map.at(4), -1);
    }

    private static void lengthsOnBothSides() {
        Check.sentence("-2 n is not 0 .. 65536");
        MemoryMap map = new MemoryMap(100);
        Check.same("n -1", map.section(-1, 1, 0), -2);
        Check.same("n -65536", map.section(-65536, 1, 0), -2);
        Check.same("n 65537", map.section(65537, 1, 0), -2);
        Check.same("n 0", map.section(0, 1, 0), 1);
        Check.same("n 1", map.section(1, 1, 0), 2);
        Check.same("n 65535", map.section(65535, 1, 0), 3);
        Check.same("n 65536", map.section(65536, 1, 0), 4);
        Check.same("no fifth", map.at(5), -1);
    }

    private static void alignmentsOnBothSides() {
        Check.sentence("ALIGNMENT not 0 .. 65536");
        MemoryMap map = new MemoryMap(100);
        Check.same("alignment -1", map.section(1, -1, 0), -2);
        Check.same("alignment -65536", map.section(1, -65536, 0), -2);
        Check.same("alignment 65537", map.section(1, 65537, 0), -2);
        Check.same("alignment 1", map.section(1, 1, 0), 1);
        Check.same("alignment 2", map.section(1, 2, 0), 2);
        Check.same("alignment 65535", map.section(1, 65535, 0), 3);
        Check.same("alignment 65536", map.section(1, 65536, 0), 4);
        Check.same("no fifth", map.at(5), -1);
    }

    private static void kindsOnBothSides() {
        Check.sentence("or no such KIND");
        MemoryMap map = new MemoryMap(100);
        Check.same("kind -1", map.section(1, 1, -1), -2);
        Check.same("kind 8", map.section(1, 1, 8), -2);
        Check.same("kind 15", map.section(1, 1, 15), -2);
        for (int good : new int[] {0, 3, 7}) {
            for (int kind : Far.intsLike(good)) {
                Check.same("kind " + kind, map.section(1, 1, kind), -2);
            }
        }
        Check.sentence("a KIND, 0 .. 7");
        for (int kind = 0; kind <= 7; kind++) {
            Check.same("kind " + kind, map.section(1, 1, kind), kind + 1);
        }
    }

    private static void lengthsBeyond32Bits() {
        Check.sentence("-2 n is not 0 .. 65536");
        for (long good : new long[] {0, 7, 65536}) {
            MemoryMap map = new MemoryMap(100);
            for (long n : Far.longsLike(good)) {
                Check.same("n " + n, map.section(n, 1, 0), -2);
            }
            Check.same("nothing was made", map.section(1, 1, 0), 1);
        }
    }

    private static void alignmentsBeyond32Bits() {
        Check.sentence("ALIGNMENT not 0 .. 65536");
        for (long good : new long[] {0, 1, 65536}) {
            MemoryMap map = new MemoryMap(100);
            for (long align : Far.longsLike(good)) {
                Check.same("alignment " + align, map.section(1, align, 0), -2);
            }
            Check.same("nothing was made", map.section(1, 1, 0), 1);
        }
    }

    private static void lengthsBeyondTheMap() {
        Check.sentence("-2 n is not 0 .. 65536");
        MemoryMap map = new MemoryMap(1);
        Check.same("longer than all addresses", map.section(2, 1, 0), 1);
        Check.same("much longer", map.section(65536, 65536, 7), 2);
        map.region(0, 1, 7);
        Check.same("there is no address for it", map.place(), -2);
    }

    private static MemoryMap withSections(int many) {
        MemoryMap map = new MemoryMap(100);
        for (int s = 1; s <= many; s++) {
            Check.same("section " + s, map.section(1, 1, 0), s);
        }
        return map;
    }

    private static void fortyAndOneMore() {
        Check.sentence("-4 there are 40");
        MemoryMap map = withSections(40);
        Check.same("a 41st", map.section(1, 1, 0), -4);
        Check.same("a 41st of length 0", map.section(0, 1, 0), -4);
        Check.same("a 41st again", map.section(50, 1, 0), -4);
        Check.same("there is no 41st", map.at(41), -1);
        Check.same("there is a 40th", map.at(40), -3);
        map.region(0, 40, 0);
        Check.same("40 octets are enough", map.place(), 1);
        Check.same("the 40th", map.at(40), 39);
    }

    private static void rangeComesBeforeRoom() {
        Check.sentence("REFUSALS change nothing and answer, the first that fits");
        MemoryMap map = withSections(40);
        Check.same("n -1", map.section(-1, 1, 0), -2);
        Check.same("n 65537", map.section(65537, 1, 0), -2);
        Check.same("alignment -1", map.section(1, -1, 0), -2);
        Check.same("alignment 65537", map.section(1, 65537, 0), -2);
        Check.same("kind -1", map.section(1, 1, -1), -2);
        Check.same("kind 8", map.section(1, 1, 8), -2);
    }

    private static void alignmentZero() {
        Check.sentence("ArithmeticException when the ALIGNMENT is 0");
        MemoryMap map = new MemoryMap(100);
        Check.throwsExactly("length 1", ArithmeticException.class, () -> map.section(1, 0, 0));
        Check.throwsExactly("length 0", ArithmeticException.class, () -> map.section(0, 0, 0));
        Check.throwsExactly("all greatest", ArithmeticException.class, () -> map.section(65536, 0, 7));
        Check.same("nothing was made", map.at(1), -1);
        Check.same("nothing is to be placed", map.place(), 1);
        Check.same("the first", map.section(1, 1, 0), 1);
    }

    private static void alignmentZeroAndAnotherOutside() {
        Check.sentence("REFUSALS change nothing and answer, the first that fits");
        MemoryMap map = new MemoryMap(100);
        Check.same("n -1", map.section(-1, 0, 0), -2);
        Check.same("n 65537", map.section(65537, 0, 0), -2);
        Check.same("kind -1", map.section(1, 0, -1), -2);
        Check.same("kind 8", map.section(1, 0, 8), -2);
    }

    private static void alignmentZeroAndRoomForOne() {
        Check.sentence("ArithmeticException when the ALIGNMENT is 0, and there is room");
        MemoryMap map = withSections(39);
        Check.throwsExactly("a 40th", ArithmeticException.class, () -> map.section(1, 0, 0));
        Check.throwsExactly("a 40th again", ArithmeticException.class, () -> map.section(1, 0, 0));
        Check.same("room is left", map.section(1, 1, 0), 40);
    }

    private static void alignmentZeroAndNoRoom() {
        Check.sentence("ArithmeticException when the ALIGNMENT is 0, and there is room");
        MemoryMap map = withSections(40);
        Check.same("a 41st", map.section(1, 0, 0), -4);
        Check.same("a 41st of length 0", map.section(0, 0, 7), -4);
        Check.same("a 41st outside a range", map.section(-1, 0, 0), -2);
    }

    private static void refusedOnesAreNotPlaced() {
        Check.sentence("REFUSALS change nothing");
        MemoryMap map = new MemoryMap(100);
        map.region(0, 10, 7);
        map.section(4, 1, 0);
        map.section(6, 65537, 0);
        map.section(6, 1, 8);
        map.section(65537, 1, 0);
        Check.throwsExactly("alignment 0", ArithmeticException.class, () -> map.section(9, 0, 0));
        Check.same("place", map.place(), 1);
        Check.same("the first has its address", map.at(1), 0);
        Check.same("behind it there is none", map.cell(4), -1);
        Check.same("no second", map.at(2), -1);
    }

    private static void newOnesPlaceNothing() {
        Check.sentence("A SECTION: its number");
        MemoryMap map = new MemoryMap(100);
        map.region(0, 100, 7);
        map.section(5, 1, 0);
        map.place();
        map.section(50, 1, 0);
        Check.same("the first is where it was", map.at(1), 0);
        Check.same("the second is nowhere", map.at(2), -3);
        Check.same("cell 0", map.cell(0), 1);
        Check.same("cell 5", map.cell(5), -1);
        Check.same("no new placement", map.moved(2), -1);
        Check.same("nothing moved", map.moved(1), 0);
    }
}
