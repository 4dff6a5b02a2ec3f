/** Promise 5: at. */
public final class AtTest {
    public static void main(String[] args) {
        noSectionYet();
        numbersOnBothSides();
        allFortyAndOneMore();
        numbersThatAreFar();
        notPlacedYet();
        onlyOlderOnesArePlaced();
        notPlacedByAFailure();
        firstAndLastAddress();
        lengthZero();
        lastOneCounts();
        lastOneCountsBeyondTheKept();
        Check.end();
    }

    private static void noSectionYet() {
        Check.sentence("-1 there is none");
        MemoryMap map = new MemoryMap(100);
        Check.same("at(1)", map.at(1), -1);
        Check.same("at(0)", map.at(0), -1);
        map.place();
        Check.same("at(1) after a placement of none", map.at(1), -1);
    }

    private static void numbersOnBothSides() {
        Check.sentence("-1 there is none");
        MemoryMap map = new MemoryMap(100);
        map.region(10, 50, 7);
        map.section(5, 1, 0);
        map.section(4, 1, 0);
        Check.same("at(0) before a placing", map.at(0), -1);
        Check.same("at(3) before a placing", map.at(3), -1);
        map.place();
        Check.same("at(-1)", map.at(-1), -1);
        Check.same("at(0)", map.at(0), -1);
        Check.same("at(1)", map.at(1), 10);
        Check.same("at(2)", map.at(2), 15);
        Check.same("at(3)", map.at(3), -1);
        Check.same("at(40)", map.at(40), -1);
        Check.same("at(41)", map.at(41), -1);
    }

    private static void allFortyAndOneMore() {
        Check.sentence("SECTIONS, at most 40");
        MemoryMap map = new MemoryMap(100);
        map.region(0, 100, 7);
        for (int s = 1; s <= 40; s++) {
            map.section(2, 1, 0);
        }
        Check.same("at(40) before a placing", map.at(40), -3);
        Check.same("at(41) before a placing", map.at(41), -1);
        map.place();
        Check.same("at(0)", map.at(0), -1);
        Check.same("at(1)", map.at(1), 0);
        Check.same("at(40)", map.at(40), 78);
        Check.same("at(41)", map.at(41), -1);
    }

    private static void numbersThatAreFar() {
        Check.sentence("-1 there is none");
        MemoryMap map = new MemoryMap(100);
        map.region(0, 100, 7);
        map.section(2, 1, 0);
        map.place();
        for (int section : Far.intsLike(1)) {
            Check.same("at(" + section + ")", map.at(section), -1);
        }
    }

    private static void notPlacedYet() {
        Check.sentence("-3 it was not");
        MemoryMap map = new MemoryMap(100);
        map.region(0, 100, 7);
        map.section(5, 1, 0);
        map.section(0, 1, 0);
        Check.same("not placed", map.at(1), -3);
        Check.same("one of length 0 was not either", map.at(2), -3);
        map.place();
        Check.same("placed", map.at(1), 0);
        Check.same("one of length 0, too", map.at(2), 0);
    }

    private static void onlyOlderOnesArePlaced() {
        Check.sentence("-3 it was not");
        MemoryMap map = new MemoryMap(100);
        map.region(3, 50, 7);
        map.place();
        map.section(4, 1, 0);
        Check.same("a placement without it", map.at(1), -3);
        map.place();
        Check.same("one with it", map.at(1), 3);
        map.section(4, 1, 0);
        Check.same("the new one", map.at(2), -3);
        Check.same("the older one", map.at(1), 3);
        map.place();
        Check.same("both", map.at(2), 7);
    }

    private static void notPlacedByAFailure() {
        Check.sentence("what was PLACED before stays");
        MemoryMap map = new MemoryMap(100);
        map.region(3, 10, 7);
        map.section(4, 1, 0);
        map.section(20, 1, 0);
        Check.same("no address for 2", map.place(), -2);
        Check.same("1 was not placed", map.at(1), -3);
        Check.same("2 was not placed", map.at(2), -3);
        map.region(20, 20, 7);
        Check.same("place", map.place(), 1);
        map.section(10, 1, 0);
        map.section(1, 1, 0);
        Check.same("no address for 1", map.place(), -1);
        Check.same("1 is where it was", map.at(1), 3);
        Check.same("2 is where it was", map.at(2), 20);
        Check.same("3 was not placed", map.at(3), -3);
        Check.same("4 was not placed", map.at(4), -3);
    }

    private static void firstAndLastAddress() {
        Check.sentence("Where a SECTION was PLACED last");
        MemoryMap map = new MemoryMap(65536);
        map.region(65535, 1, 7);
        map.region(0, 1, 7);
        map.section(1, 1, 0);
        map.section(1, 1, 0);
        map.place();
        Check.same("the last address", map.at(1), 65535);
        Check.same("the first address", map.at(2), 0);
    }

    private static void lengthZero() {
        Check.sentence("One of LENGTH 0 is at 0");
        MemoryMap map = new MemoryMap(100);
        map.region(50, 10, 7);
        map.section(0, 9, 7);
        map.place();
        Check.same("at 0, where there is no region", map.at(1), 0);
    }

    private static void lastOneCounts() {
        Check.sentence("Where a SECTION was PLACED last");
        MemoryMap map = new MemoryMap(100);
        map.region(10, 50, 7);
        map.section(5, 1, 0);
        map.place();
        map.section(6, 1, 0);
        map.place();
        Check.same("behind the greater one", map.at(1), 16);
        map.section(7, 1, 0);
        map.place();
        Check.same("behind both", map.at(1), 23);
        Check.same("between them", map.at(2), 17);
    }

    private static void lastOneCountsBeyondTheKept() {
        Check.sentence("Where a SECTION was PLACED last");
        MemoryMap map = new MemoryMap(100);
        map.region(10, 50, 7);
        map.section(5, 1, 0);
        for (int p = 1; p <= 50; p++) {
            map.place();
        }
        map.section(6, 1, 0);
        Check.same("not in placement 50", map.at(2), -3);
        Check.same("placement 51", map.place(), 1);
        Check.same("1 in placement 51", map.at(1), 16);
        Check.same("2 in placement 51", map.at(2), 10);
        map.section(7, 1, 0);
        Check.same("placement 52", map.place(), 1);
        Check.same("1 in placement 52", map.at(1), 23);
    }
}
