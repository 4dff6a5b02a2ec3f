/** Promises 1 to 3: a new object, region, section. */
public final class RegionsAndSectionsTest {
    public static void main(String[] args) {
        sizes();
        newObjectIsEmpty();
        regionsAreNumbered();
        regionsOutsideARange();
        regionsThatOverlap();
        regionsAtTheLimit();
        sectionsAreNumbered();
        sectionsOutsideARange();
        sectionsAtTheLimit();
        alignmentZero();
        Check.end();
    }

    private static void sizes() {
        hasSize(1L, 1);
        hasSize(2L, 2);
        hasSize(4095L, 4095);
        hasSize(65535L, 65535);
        hasSize(65536L, 65536);
        hasSize(0L, 4096);
        hasSize(-1L, 4096);
        hasSize(65537L, 4096);
        hasSize(4294967296L + 5L, 4096);
        hasSize(Long.MAX_VALUE, 4096);
        hasSize(Long.MIN_VALUE, 4096);
    }

    private static void hasSize(long asked, long due) {
        MemoryMap map = new MemoryMap(asked);
        String name = "MemoryMap(" + asked + ")";
        Check.same(name + " cell(last)", map.cell(due - 1), -1);
        Check.throwsExactly(name + " cell(size)", ArrayIndexOutOfBoundsException.class, () -> map.cell(due));
        Check.same(name + " region one too long", map.region(0, due + 1, 7), -2);
        Check.same(name + " region of all", map.region(0, due, 7), 1);
    }

    private static void newObjectIsEmpty() {
        MemoryMap map = new MemoryMap(100);
        Check.same("no section", map.at(1), -1);
        Check.same("no placement", map.moved(1), -1);
        Check.same("no block", map.read(1), -1);
        for (int f = 1; f <= 30; f++) {
            Check.same("depth(" + f + ") at first", map.depth(f), 0);
            Check.same("calls of " + f + " at first", map.call(f, 0, 0), 0);
        }
    }

    private static void regionsAreNumbered() {
        MemoryMap map = new MemoryMap(100);
        Check.same("first region", map.region(10, 10, 0), 1);
        Check.same("one that touches its end", map.region(20, 1, 7), 2);
        Check.same("one that touches its start", map.region(9, 1, 3), 3);
        Check.same("a refused one takes no number", map.region(9, 1, 3), -3);
        Check.same("the last address", map.region(99, 1, 3), 4);
        Check.same("address 0", map.region(0, 9, 3), 5);
    }

    private static void regionsOutsideARange() {
        MemoryMap map = new MemoryMap(100);
        Check.same("n 0", map.region(0, 0, 0), -2);
        Check.same("n -1", map.region(5, -1, 0), -2);
        Check.same("from -1", map.region(-1, 5, 0), -2);
        Check.same("from size", map.region(100, 1, 0), -2);
        Check.same("end behind size", map.region(91, 10, 0), -2);
        Check.same("rights 8", map.region(0, 1, 8), -2);
        Check.same("rights -1", map.region(0, 1, -1), -2);
        Check.same("a sum that wraps", map.region(Long.MAX_VALUE, Long.MAX_VALUE, 0), -2);
        Check.same("a sum that wraps to 1", map.region(Long.MAX_VALUE, Long.MIN_VALUE + 2, 0), -2);
        Check.same("from the greatest", map.region(Long.MAX_VALUE, 1, 0), -2);
        Check.same("from the greatest, n the size", map.region(Long.MAX_VALUE, 100, 0), -2);
        Check.same("n the greatest", map.region(1, Long.MAX_VALUE, 0), -2);
        Check.same("from the least", map.region(Long.MIN_VALUE, 1, 0), -2);
        Check.same("n beyond an int", map.region(0, 4294967297L, 0), -2);
        Check.same("from beyond an int", map.region(4294967296L, 1, 0), -2);
        Check.same("nothing was made", map.region(0, 100, 0), 1);
    }

    private static void regionsThatOverlap() {
        MemoryMap map = new MemoryMap(100);
        map.region(40, 20, 1);
        Check.same("the same", map.region(40, 20, 1), -3);
        Check.same("inside", map.region(45, 5, 1), -3);
        Check.same("round it", map.region(30, 50, 1), -3);
        Check.same("over its start", map.region(30, 11, 1), -3);
        Check.same("over its end", map.region(59, 5, 1), -3);
        Check.same("wrong rights come first", map.region(45, 5, 9), -2);
        Check.same("just before it", map.region(30, 10, 1), 2);
        Check.same("just behind it", map.region(60, 5, 1), 3);
    }

    private static void regionsAtTheLimit() {
        MemoryMap map = new MemoryMap(100);
        for (int r = 1; r <= 16; r++) {
            Check.same("region " + r, map.region(2L * r, 1, r % 8), r);
        }
        Check.same("a 17th region", map.region(80, 1, 0), -4);
        Check.same("a 17th that overlaps", map.region(2, 1, 0), -3);
        Check.same("a 17th outside", map.region(100, 1, 0), -2);
    }

    private static void sectionsAreNumbered() {
        MemoryMap map = new MemoryMap(100);
        Check.same("length 0", map.section(0, 1, 0), 1);
        Check.same("the greatest length", map.section(65536, 65536, 7), 2);
        Check.same("a refused one takes no number", map.section(65537, 1, 0), -2);
        Check.same("the third", map.section(1, 1, 7), 3);
        Check.same("known now", map.at(3), -3);
        Check.same("not known", map.at(4), -1);
    }

    private static void sectionsOutsideARange() {
        MemoryMap map = new MemoryMap(100);
        Check.same("n -1", map.section(-1, 1, 0), -2);
        Check.same("n 65537", map.section(65537, 1, 0), -2);
        Check.same("n beyond an int", map.section(4294967296L, 1, 0), -2);
        Check.same("n the least", map.section(Long.MIN_VALUE, 1, 0), -2);
        Check.same("align -1", map.section(1, -1, 0), -2);
        Check.same("align 65537", map.section(1, 65537, 0), -2);
        Check.same("align beyond an int", map.section(1, 4294967297L, 0), -2);
        Check.same("align 0 as an int", map.section(1, 4294967296L, 0), -2);
        Check.same("kind -1", map.section(1, 1, -1), -2);
        Check.same("kind 8", map.section(1, 1, 8), -2);
        Check.same("nothing was made", map.section(1, 1, 0), 1);
    }

    private static void sectionsAtTheLimit() {
        MemoryMap map = new MemoryMap(100);
        for (int s = 1; s <= 40; s++) {
            Check.same("section " + s, map.section(s, s, s % 8), s);
        }
        Check.same("a 41st section", map.section(1, 1, 0), -4);
        Check.same("a 41st of alignment 0", map.section(1, 0, 0), -4);
        Check.same("a 41st outside a range", map.section(1, 1, 8), -2);
        Check.same("not known", map.at(41), -1);
    }

    private static void alignmentZero() {
        MemoryMap map = new MemoryMap(100);
        Check.throwsExactly("alignment 0", ArithmeticException.class, () -> map.section(1, 0, 0));
        Check.throwsExactly("alignment 0 of length 0", ArithmeticException.class, () -> map.section(0, 0, 7));
        Check.same("alignment 0, wrong length", map.section(-1, 0, 0), -2);
        Check.same("alignment 0, wrong kind", map.section(1, 0, 8), -2);
        Check.same("nothing was made", map.at(1), -1);
        for (int s = 1; s <= 39; s++) {
            map.section(0, 1, 0);
        }
        Check.throwsExactly("alignment 0, room for one", ArithmeticException.class, () -> map.section(1, 0, 0));
        Check.same("the last one", map.section(1, 1, 0), 40);
    }
}
