/**
 * One call over and over, for almost all of an object's 512 calls: it answers the same each time, and
 * what comes then is answered as if it had been the first.
 */
public final class SameCallTest {
    public static void main(String[] args) {
        Check.sentence("An object is used for at most 512 calls after it has been made");
        regionRefused();
        sectionRefused();
        sectionThrows();
        placeNothing();
        placeTheSame();
        placeFails();
        atNotPlaced();
        atThere();
        callTheSame();
        callRefused();
        depthTheSame();
        depthOfARing();
        blockRefused();
        writeTheSame();
        writeRefused();
        pokeTheSame();
        pokeRefused();
        readTheFirst();
        readRefused();
        cellNothing();
        cellThere();
        cellThrows();
        movedNone();
        movedUnknown();
        Check.end();
    }

    private static void repeat(String what, LongRun run, int rest, long due, Check.Call call) {
        while (run.left() > rest) {
            run.next();
            Check.same(what, call.answer(), due);
        }
    }

    private static void repeatThrown(String what, LongRun run, int rest,
            Class<? extends RuntimeException> due, Check.Call call) {
        while (run.left() > rest) {
            run.next();
            Check.throwsExactly(what, due, call);
        }
    }

    /** Region 1 is 10 .. 29, and section 1 of 5 octets is not placed yet. */
    private static void makeSection(LongRun run) {
        Check.same("region 1", run.next().region(10, 20, 7), 1);
        Check.same("section 1", run.next().section(5, 1, 0), 1);
    }

    private static void makePlacement(LongRun run) {
        makeSection(run);
        Check.same("placement 1", run.next().place(), 1);
    }

    /** Section 2 is longer, so section 1 comes behind it. */
    private static void makeSectionMove(LongRun run) {
        Check.same("section 2", run.next().section(6, 1, 0), 2);
        Check.same("place", run.next().place(), 1);
    }

    private static void makeBlock(LongRun run) {
        Check.same("block 1", run.next().block(3), 1);
        Check.same("write", run.next().write(1, 2, (byte) 77), 1);
    }

    private static void regionRefused() {
        LongRun run = new LongRun(100);
        MemoryMap map = run.map();
        Check.same("region 1", run.next().region(10, 20, 7), 1);
        repeat("over region 1", run, 4, -3, () -> map.region(29, 5, 7));
        Check.same("behind region 1", run.next().region(30, 5, 7), 2);
        Check.same("over region 2", run.next().region(34, 2, 7), -3);
        Check.same("outside", run.next().region(99, 2, 7), -2);
        Check.same("the last address", run.next().region(99, 1, 7), 3);
        run.end();
    }

    private static void sectionRefused() {
        LongRun run = new LongRun(100);
        MemoryMap map = run.map();
        repeat("kind 8", run, 5, -2, () -> map.section(5, 1, 8));
        makePlacement(run);
        Check.same("section 1", run.next().at(1), 10);
        Check.same("section 2", run.next().section(5, 1, 0), 2);
        run.end();
    }

    private static void sectionThrows() {
        LongRun run = new LongRun(100);
        MemoryMap map = run.map();
        repeatThrown("alignment 0", run, 5, ArithmeticException.class, () -> map.section(5, 0, 0));
        makePlacement(run);
        Check.same("section 1", run.next().at(1), 10);
        Check.same("section 2", run.next().section(5, 1, 0), 2);
        run.end();
    }

    private static void placeNothing() {
        LongRun run = new LongRun(100);
        MemoryMap map = run.map();
        repeat("place", run, 7, 1, map::place);
        makePlacement(run);
        Check.same("section 1", run.next().at(1), 10);
        Check.same("its first octet", run.next().cell(10), 1);
        Check.same("nothing was there to be moved", run.next().moved(50), 0);
        Check.same("not kept", run.next().moved(51), -1);
        run.end();
    }

    private static void placeTheSame() {
        LongRun run = new LongRun(100);
        MemoryMap map = run.map();
        makeSection(run);
        repeat("place", run, 9, 1, map::place);
        makeSectionMove(run);
        Check.same("section 2", run.next().at(2), 10);
        Check.same("section 1", run.next().at(1), 16);
        Check.same("section 1 in its cell", run.next().cell(16), 1);
        Check.same("it has moved", run.next().moved(50), 1);
        Check.same("section 3", run.next().section(10, 1, 0), 3);
        Check.same("no address for 1", run.next().place(), -1);
        Check.same("section 1 stays", run.next().at(1), 16);
        run.end();
    }

    private static void placeFails() {
        LongRun run = new LongRun(100);
        MemoryMap map = run.map();
        makeSection(run);
        Check.same("section 2", run.next().section(16, 1, 0), 2);
        repeat("no address for 1", run, 5, -1, map::place);
        Check.same("region 2", run.next().region(50, 5, 7), 2);
        Check.same("placement 1", run.next().place(), 1);
        Check.same("section 1", run.next().at(1), 50);
        Check.same("it is the first", run.next().moved(1), 0);
        Check.same("there is no second", run.next().moved(2), -1);
        run.end();
    }

    private static void atNotPlaced() {
        LongRun run = new LongRun(100);
        MemoryMap map = run.map();
        makeSection(run);
        repeat("not placed", run, 3, -3, () -> map.at(1));
        Check.same("place", run.next().place(), 1);
        Check.same("placed", run.next().at(1), 10);
        Check.same("unknown", run.next().at(2), -1);
        run.end();
    }

    private static void atThere() {
        LongRun run = new LongRun(100);
        MemoryMap map = run.map();
        makePlacement(run);
        repeat("section 1", run, 4, 10, () -> map.at(1));
        makeSectionMove(run);
        Check.same("section 1", run.next().at(1), 16);
        Check.same("section 2", run.next().at(2), 10);
        run.end();
    }

    private static void callTheSame() {
        LongRun run = new LongRun(100);
        MemoryMap map = run.map();
        repeat("1 calls 2", run, 4, 1, () -> map.call(1, 2, 50));
        Check.same("1 calls 3", run.next().call(1, 3, 60), 2);
        Check.same("2", run.next().call(2, 0, 7), 0);
        Check.same("3", run.next().call(3, 0, 8), 0);
        Check.same("from 1", run.next().depth(1), 68);
        run.end();
    }

    private static void callRefused() {
        LongRun run = new LongRun(100);
        MemoryMap map = run.map();
        repeat("stack -1", run, 4, -2, () -> map.call(1, 2, -1));
        Check.same("from 1", run.next().depth(1), 0);
        Check.same("1 calls 3", run.next().call(1, 3, 60), 1);
        Check.same("2 calls 1", run.next().call(2, 1, 7), 1);
        Check.same("from 2", run.next().depth(2), 67);
        run.end();
    }

    private static void depthTheSame() {
        LongRun run = new LongRun(100);
        MemoryMap map = run.map();
        Check.same("1 calls 2", run.next().call(1, 2, 50), 1);
        Check.same("2", run.next().call(2, 0, 7), 0);
        repeat("from 1", run, 6, 57, () -> map.depth(1));
        Check.same("2 calls 3", run.next().call(2, 3, 9), 1);
        Check.same("from 1", run.next().depth(1), 59);
        Check.same("3 calls 1", run.next().call(3, 1, 9), 1);
        Check.same("a ring", run.next().depth(1), -1);
        Check.same("no ring", run.next().depth(4), 0);
        Check.same("unknown", run.next().depth(31), -2);
        run.end();
    }

    private static void depthOfARing() {
        LongRun run = new LongRun(100);
        MemoryMap map = run.map();
        Check.same("1 calls 2", run.next().call(1, 2, 50), 1);
        Check.same("2 calls 2", run.next().call(2, 2, 7), 1);
        repeat("from 1", run, 3, -1, () -> map.depth(1));
        Check.same("3", run.next().call(3, 0, 9), 0);
        Check.same("from 3", run.next().depth(3), 9);
        Check.same("from 2", run.next().depth(2), -1);
        run.end();
    }

    private static void blockRefused() {
        LongRun run = new LongRun(100);
        MemoryMap map = run.map();
        repeat("n 33", run, 24, -2, () -> map.block(33));
        for (int b = 1; b <= 20; b++) {
            Check.same("block " + b, run.next().block(32), b);
        }
        Check.same("a 21st", run.next().block(32), -4);
        Check.same("its last octet", run.next().poke(20, 2, 31, 0), 0);
        Check.same("behind it", run.next().poke(20, 2, 32, 0), -2);
        Check.same("good", run.next().read(20), 1);
        run.end();
    }

    private static void writeTheSame() {
        LongRun run = new LongRun(100);
        MemoryMap map = run.map();
        Check.same("block 1", run.next().block(3), 1);
        repeat("write", run, 9, 1, () -> map.write(1, 2, (byte) 77));
        Check.same("copy 1", run.next().poke(1, 1, 2, 0), 77);
        Check.same("damage to copy 1", run.next().poke(1, 1, 0, 1), 1);
        Check.same("damage to copy 2", run.next().poke(1, 2, 0, 2), 2);
        Check.same("write", run.next().write(1, 2, (byte) 78), 1);
        Check.same("no such octet", run.next().write(1, 3, (byte) 78), -2);
        Check.same("copy 1 is good", run.next().read(1), 1);
        Check.same("copy 2 is as copy 1", run.next().poke(1, 2, 0, 0), 1);
        Check.same("what was written to copy 1", run.next().poke(1, 1, 2, 0), 78);
        Check.same("what was written to copy 2", run.next().poke(1, 2, 2, 0), 78);
        run.end();
    }

    private static void writeRefused() {
        LongRun run = new LongRun(100);
        MemoryMap map = run.map();
        makeBlock(run);
        repeat("no such octet", run, 4, -2, () -> map.write(1, 3, (byte) 9));
        Check.same("as it was", run.next().poke(1, 1, 2, 0), 77);
        Check.same("write", run.next().write(1, 2, (byte) 9), 1);
        Check.same("copy 2", run.next().poke(1, 2, 2, 0), 9);
        Check.same("good", run.next().read(1), 1);
        run.end();
    }

    private static void pokeTheSame() {
        LongRun run = new LongRun(100);
        makeBlock(run);
        while (run.left() > 6) {
            Check.same("once", run.next().poke(1, 1, 2, 255), 178);
            Check.same("and back", run.next().poke(1, 1, 2, 255), 77);
        }
        Check.same("good", run.next().read(1), 1);
        Check.same("damage", run.next().poke(1, 1, 2, 255), 178);
        Check.same("copy 2 is good", run.next().read(1), 2);
        Check.same("mended", run.next().poke(1, 1, 2, 0), 77);
        Check.same("no such copy", run.next().poke(1, 3, 2, 0), -1);
        Check.same("no such octet", run.next().poke(1, 2, 3, 0), -2);
        run.end();
    }

    private static void pokeRefused() {
        LongRun run = new LongRun(100);
        MemoryMap map = run.map();
        makeBlock(run);
        repeat("no such copy", run, 3, -1, () -> map.poke(1, 3, 2, 255));
        Check.same("copy 1", run.next().poke(1, 1, 2, 0), 77);
        Check.same("copy 2", run.next().poke(1, 2, 2, 1), 76);
        Check.same("copy 1 is good", run.next().read(1), 1);
        run.end();
    }

    private static void readTheFirst() {
        LongRun run = new LongRun(100);
        MemoryMap map = run.map();
        makeBlock(run);
        repeat("copy 1", run, 9, 1, () -> map.read(1));
        Check.same("damage", run.next().poke(1, 1, 2, 1), 76);
        Check.same("copy 2", run.next().read(1), 2);
        Check.same("copy 1 is mended", run.next().poke(1, 1, 2, 0), 77);
        Check.same("damage", run.next().poke(1, 1, 1, 1), 1);
        Check.same("damage to both", run.next().poke(1, 2, 0, 1), 1);
        Check.same("none", run.next().read(1), 0);
        Check.same("all 0 in copy 1", run.next().poke(1, 1, 2, 0), 0);
        Check.same("all 0 in copy 2", run.next().poke(1, 2, 2, 0), 0);
        Check.same("copy 1", run.next().read(1), 1);
        run.end();
    }

    private static void readRefused() {
        LongRun run = new LongRun(100);
        MemoryMap map = run.map();
        makeBlock(run);
        Check.same("damage", run.next().poke(1, 1, 2, 1), 76);
        repeat("no such block", run, 3, -1, () -> map.read(2));
        Check.same("damaged still", run.next().poke(1, 1, 2, 0), 76);
        Check.same("copy 2", run.next().read(1), 2);
        Check.same("mended", run.next().poke(1, 1, 2, 0), 77);
        run.end();
    }

    private static void cellNothing() {
        LongRun run = new LongRun(100);
        MemoryMap map = run.map();
        repeat("nothing is there", run, 5, -1, () -> map.cell(10));
        makePlacement(run);
        Check.same("section 1", run.next().cell(10), 1);
        Check.same("behind it", run.next().cell(15), -1);
        run.end();
    }

    private static void cellThere() {
        LongRun run = new LongRun(100);
        MemoryMap map = run.map();
        makePlacement(run);
        repeat("section 1", run, 4, 1, () -> map.cell(14));
        makeSectionMove(run);
        Check.same("section 2", run.next().cell(14), 2);
        Check.same("section 1", run.next().cell(20), 1);
        run.end();
    }

    private static void cellThrows() {
        LongRun run = new LongRun(100);
        MemoryMap map = run.map();
        repeatThrown("no address", run, 6, ArrayIndexOutOfBoundsException.class, () -> map.cell(100));
        Check.same("the last address", run.next().cell(99), -1);
        makePlacement(run);
        Check.same("section 1", run.next().cell(14), 1);
        Check.same("behind it", run.next().cell(15), -1);
        run.end();
    }

    private static void movedNone() {
        LongRun run = new LongRun(100);
        MemoryMap map = run.map();
        makePlacement(run);
        repeat("none", run, 5, 0, () -> map.moved(1));
        makeSectionMove(run);
        Check.same("section 1", run.next().moved(1), 1);
        Check.same("none since the second", run.next().moved(2), 0);
        Check.same("no third", run.next().moved(3), -1);
        run.end();
    }

    private static void movedUnknown() {
        LongRun run = new LongRun(100);
        MemoryMap map = run.map();
        makePlacement(run);
        repeat("no second", run, 4, -1, () -> map.moved(2));
        makeSectionMove(run);
        Check.same("the second", run.next().moved(2), 0);
        Check.same("section 1", run.next().moved(1), 1);
        run.end();
    }
}
