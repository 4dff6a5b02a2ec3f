/** Promise 13: moved. */
public final class MovedTest {
    public static void main(String[] args) {
        noPlacementYet();
        numbersOnBothSides();
        numbersThatAreFar();
        placementOfNothing();
        lastWithItself();
        noneOneAndAll();
        movedByOneOctet();
        allFortyMoved();
        movedAndBackAgain();
        newOnesAreNotCounted();
        lengthZeroNeverMoves();
        fiftyAreKept();
        lastOneIsNotKept();
        keptOnesStay();
        failuresAreNoPlacement();
        failureLeavesTheLast();
        Check.end();
    }

    private static MemoryMap withRegion(long from, long n) {
        MemoryMap map = new MemoryMap(1000);
        map.region(from, n, 7);
        return map;
    }

    private static void noPlacementYet() {
        Check.sentence("-1 there is no such one kept");
        MemoryMap map = withRegion(0, 100);
        Check.same("moved(0)", map.moved(0), -1);
        Check.same("moved(1)", map.moved(1), -1);
        map.section(5, 1, 0);
        Check.same("with a section", map.moved(1), -1);
    }

    private static void numbersOnBothSides() {
        Check.sentence("-1 there is no such one kept");
        MemoryMap map = withRegion(0, 100);
        map.section(5, 1, 0);
        map.place();
        Check.same("moved(-1)", map.moved(-1), -1);
        Check.same("moved(0)", map.moved(0), -1);
        Check.same("moved(1)", map.moved(1), 0);
        Check.same("moved(2)", map.moved(2), -1);
        map.place();
        Check.same("moved(2), there now", map.moved(2), 0);
        Check.same("moved(3)", map.moved(3), -1);
        Check.same("moved(50)", map.moved(50), -1);
        Check.same("moved(51)", map.moved(51), -1);
    }

    private static void numbersThatAreFar() {
        Check.sentence("-1 there is no such one kept");
        MemoryMap map = withRegion(0, 100);
        map.section(5, 1, 0);
        map.place();
        for (int before : Far.intsLike(1)) {
            Check.same("moved(" + before + ")", map.moved(before), -1);
        }
    }

    private static void placementOfNothing() {
        Check.sentence("How many SECTIONS of a PLACEMENT are somewhere else in the last one");
        MemoryMap map = withRegion(0, 100);
        map.place();
        Check.same("of none none", map.moved(1), 0);
        map.section(5, 1, 0);
        map.section(5, 1, 0);
        map.place();
        Check.same("of none still none", map.moved(1), 0);
        Check.same("the second", map.moved(2), 0);
    }

    private static void lastWithItself() {
        Check.sentence("How many SECTIONS of a PLACEMENT are somewhere else in the last one");
        MemoryMap map = withRegion(7, 200);
        map.section(5, 1, 0);
        for (int p = 1; p <= 10; p++) {
            map.section(5 + p, 1, 0);
            map.place();
            Check.same("placement " + p, map.moved(p), 0);
        }
    }

    private static void noneOneAndAll() {
        Check.sentence("How many SECTIONS of a PLACEMENT are somewhere else in the last one");
        MemoryMap map = withRegion(0, 100);
        map.section(9, 1, 0);
        map.section(7, 1, 0);
        map.section(5, 1, 0);
        map.place();
        map.section(4, 1, 0);
        map.place();
        Check.same("none", map.moved(1), 0);
        map.section(6, 1, 0);
        map.place();
        Check.same("one", map.moved(1), 1);
        Check.same("two of the second", map.moved(2), 2);
        map.section(8, 1, 0);
        map.place();
        Check.same("two", map.moved(1), 2);
        map.section(10, 1, 0);
        map.place();
        Check.same("all", map.moved(1), 3);
        Check.same("all of the second", map.moved(2), 4);
        Check.same("all of the third", map.moved(3), 5);
        Check.same("all of the fourth", map.moved(4), 6);
        Check.same("none of the last", map.moved(5), 0);
    }

    private static void movedByOneOctet() {
        Check.sentence("somewhere else in the last one");
        MemoryMap map = withRegion(0, 6);
        map.region(50, 3, 7);
        map.section(1, 1, 0);
        map.section(3, 1, 0);
        map.place();
        Check.same("1 behind 2", map.at(1), 3);
        map.section(4, 1, 0);
        map.place();
        Check.same("1 behind 3, which drove 2 away", map.at(1), 4);
        Check.same("both moved", map.moved(1), 2);
    }

    private static void allFortyMoved() {
        Check.sentence("SECTIONS, at most 40");
        MemoryMap map = withRegion(0, 100);
        for (int s = 1; s <= 39; s++) {
            map.section(1, 1, 0);
        }
        map.place();
        map.section(2, 1, 0);
        map.place();
        Check.same("39 of 39", map.moved(1), 39);
        Check.same("none of 40", map.moved(2), 0);
    }

    /** Section 2 takes the place of 1, until 3 leaves too few octets there for 2, but enough for 1. */
    private static void movedAndBackAgain() {
        Check.sentence("somewhere else in the last one");
        MemoryMap map = withRegion(1, 10);
        map.region(50, 10, 7);
        map.section(3, 1, 0);
        map.place();
        Check.same("1 at first", map.at(1), 1);
        map.section(4, 1, 0);
        map.place();
        Check.same("1 behind 2", map.at(1), 5);
        Check.same("moved", map.moved(1), 1);
        map.section(6, 4, 0);
        map.place();
        Check.same("1 back again", map.at(1), 1);
        Check.same("where it was in the first", map.moved(1), 0);
        Check.same("both moved from the second", map.moved(2), 2);
    }

    private static void newOnesAreNotCounted() {
        Check.sentence("How many SECTIONS of a PLACEMENT are somewhere else");
        MemoryMap map = withRegion(10, 100);
        map.section(5, 1, 0);
        map.place();
        for (int s = 2; s <= 10; s++) {
            map.section(1, 1, 0);
        }
        Check.same("before a placing", map.moved(1), 0);
        map.place();
        Check.same("new ones behind the first", map.moved(1), 0);
    }

    private static void lengthZeroNeverMoves() {
        Check.sentence("One of LENGTH 0 is at 0");
        MemoryMap map = withRegion(10, 100);
        map.section(0, 1, 0);
        map.section(5, 1, 0);
        map.place();
        map.section(6, 1, 0);
        map.place();
        Check.same("only the other one", map.moved(1), 1);
    }

    private static void fiftyAreKept() {
        Check.sentence("the first 50 are kept");
        MemoryMap map = withRegion(0, 100);
        map.section(5, 1, 0);
        for (int p = 1; p <= 50; p++) {
            Check.same("not there yet", map.moved(p), -1);
            Check.same("placement " + p, map.place(), 1);
            Check.same("kept", map.moved(p), 0);
        }
        for (int p = 51; p <= 55; p++) {
            Check.same("placement " + p, map.place(), 1);
            Check.same("not kept", map.moved(p), -1);
            Check.same("50 still is", map.moved(50), 0);
            Check.same("1 still is", map.moved(1), 0);
        }
    }

    private static void lastOneIsNotKept() {
        Check.sentence("How many SECTIONS of a PLACEMENT are somewhere else in the last one");
        MemoryMap map = withRegion(0, 100);
        map.section(5, 1, 0);
        for (int p = 1; p <= 50; p++) {
            map.place();
        }
        map.section(6, 1, 0);
        Check.same("before placement 51", map.moved(50), 0);
        map.place();
        Check.same("50 and 51", map.moved(50), 1);
        Check.same("1 and 51", map.moved(1), 1);
        Check.same("51 is not kept", map.moved(51), -1);
        map.section(7, 1, 0);
        map.place();
        Check.same("50 and 52", map.moved(50), 1);
        Check.same("52 is not kept", map.moved(52), -1);
    }

    private static void keptOnesStay() {
        Check.sentence("the first 50 are kept");
        MemoryMap map = withRegion(0, 1000);
        for (int p = 1; p <= 38; p++) {
            map.section(p, 1, 0);
            map.place();
        }
        for (int p = 39; p <= 60; p++) {
            map.place();
        }
        for (int p = 1; p <= 37; p++) {
            Check.same("all of placement " + p, map.moved(p), p);
        }
        for (int p = 38; p <= 50; p++) {
            Check.same("none of placement " + p, map.moved(p), 0);
        }
        Check.same("51 is not kept", map.moved(51), -1);
    }

    private static void failuresAreNoPlacement() {
        Check.sentence("Otherwise that is the next PLACEMENT, numbered from 1 on");
        MemoryMap map = withRegion(0, 10);
        map.section(5, 1, 1);
        map.place();
        map.section(11, 1, 0);
        for (int again = 0; again < 60; again++) {
            Check.same("no address", map.place(), -2);
        }
        Check.same("1 is kept", map.moved(1), 0);
        Check.same("there is no second", map.moved(2), -1);
        map.region(20, 11, 0);
        Check.same("place", map.place(), 1);
        Check.same("the second", map.moved(2), 0);
        Check.same("there is no third", map.moved(3), -1);
    }

    private static void failureLeavesTheLast() {
        Check.sentence("nothing is PLACED anew: what was PLACED before stays");
        MemoryMap map = withRegion(0, 20);
        map.section(5, 1, 0);
        map.place();
        map.section(6, 1, 0);
        map.place();
        map.section(14, 1, 0);
        Check.same("no address for 1", map.place(), -1);
        Check.same("1 as before", map.moved(1), 1);
        Check.same("2 as before", map.moved(2), 0);
        Check.same("no third", map.moved(3), -1);
    }
}
