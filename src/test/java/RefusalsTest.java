import java.util.ArrayList;
import java.util.List;
import java.util.function.ToLongFunction;

/**
 * REFUSALS change nothing: an object that refused a call answers all later calls as one that never
 * got it. Each look at what is there begins with new objects, so that none gets more than 512 calls.
 */
public final class RefusalsTest {
    private static final int LOOKS = 26;

    private record Refused(String text, ToLongFunction<MemoryMap> call, long due) {
    }

    /** What is there when a call is refused. */
    private enum State { NOTHING, SOME, ALL }

    private final State state;
    private final List<Refused> refused = new ArrayList<>();

    private RefusalsTest(State state) {
        this.state = state;
    }

    public static void main(String[] args) {
        statesAreAsMeant();
        Check.sentence("REFUSALS change nothing");
        for (State state : State.values()) {
            RefusalsTest test = new RefusalsTest(state);
            test.listRefused();
            test.lookAtEach();
        }
        Check.end();
    }

    private static void statesAreAsMeant() {
        MemoryMap some = new RefusalsTest(State.SOME).made();
        Check.same("two placements", some.moved(2), 0);
        Check.same("section 4 is placed", some.at(4), 16);
        Check.same("section 5 is not", some.at(5), -3);
        Check.same("a region for it", some.region(30, 10, 7), 4);
        Check.same("then it has an address", some.place(), 1);
        MemoryMap all = new RefusalsTest(State.ALL).made();
        Check.same("50 placements", all.moved(50), 0);
        Check.isTrue("section 40 is placed", all.at(40) >= 0);
        Check.same("a depth", all.depth(16), 16);
        Check.same("a ring", all.depth(1), -1);
        Check.same("block 20", all.poke(20, 2, 19, 0), 0);
    }

    private void refuse(String text, long due, ToLongFunction<MemoryMap> call) {
        refused.add(new Refused(state + ", " + text, call, due));
    }

    private void listRefused() {
        listAlwaysRefused();
        switch (state) {
            case NOTHING -> listUnknownYet();
            case SOME -> listRefusedWithSome();
            default -> listRefusedWithAll();
        }
    }

    private void listAlwaysRefused() {
        refuse("region n 0", -2, map -> map.region(30, 0, 7));
        refuse("region from -1", -2, map -> map.region(-1, 5, 7));
        refuse("region behind the end", -2, map -> map.region(99, 2, 7));
        refuse("region rights 8", -2, map -> map.region(30, 5, 8));
        refuse("section n -1", -2, map -> map.section(-1, 1, 0));
        refuse("section n 65537", -2, map -> map.section(65537, 1, 0));
        refuse("section alignment -1", -2, map -> map.section(1, -1, 0));
        refuse("section alignment 65537", -2, map -> map.section(1, 65537, 0));
        refuse("section kind 8", -2, map -> map.section(1, 1, 8));
        refuse("at(0)", -1, map -> map.at(0));
        refuse("at(41)", -1, map -> map.at(41));
        refuse("call from 0", -1, map -> map.call(0, 1, 9));
        refuse("call from 31", -1, map -> map.call(31, 1, 9));
        refuse("call to 31", -1, map -> map.call(1, 31, 9));
        refuse("call to -1", -1, map -> map.call(1, -1, 9));
        refuse("call stack -1", -2, map -> map.call(1, 9, -1));
        refuse("call stack 1000001", -2, map -> map.call(1, 9, 1000001));
        refuse("depth(0)", -2, map -> map.depth(0));
        refuse("depth(31)", -2, map -> map.depth(31));
        refuse("block(0)", -2, map -> map.block(0));
        refuse("block(33)", -2, map -> map.block(33));
        refuse("write block 21", -1, map -> map.write(21, 0, (byte) 9));
        refuse("poke block 21", -1, map -> map.poke(21, 1, 0, 9));
        refuse("read(0)", -1, map -> map.read(0));
        refuse("read(21)", -1, map -> map.read(21));
        refuse("cell(-1)", exception(), map -> map.cell(-1));
        refuse("cell(100)", exception(), map -> map.cell(100));
        refuse("moved(0)", -1, map -> map.moved(0));
        refuse("moved(51)", -1, map -> map.moved(51));
    }

    private void listUnknownYet() {
        refuse("section alignment 0", exception(), map -> map.section(5, 0, 0));
        refuse("at(1)", -1, map -> map.at(1));
        refuse("write block 1", -1, map -> map.write(1, 0, (byte) 9));
        refuse("poke block 1", -1, map -> map.poke(1, 1, 0, 9));
        refuse("read(1)", -1, map -> map.read(1));
        refuse("moved(1)", -1, map -> map.moved(1));
    }

    private void listRefusedWithSome() {
        refuse("section alignment 0", exception(), map -> map.section(5, 0, 0));
        refuse("region over the first", -3, map -> map.region(5, 6, 7));
        refuse("place", -5, MemoryMap::place);
        refuse("at(5), not placed", -3, map -> map.at(5));
        refuse("at(6)", -1, map -> map.at(6));
        refuse("write block 4", -1, map -> map.write(4, 0, (byte) 9));
        refuse("moved(3)", -1, map -> map.moved(3));
        listRefusedByBlocks();
    }

    private void listRefusedWithAll() {
        refuse("region over the last", -3, map -> map.region(90, 1, 7));
        refuse("a 17th region", -4, map -> map.region(95, 2, 7));
        refuse("a 41st section", -4, map -> map.section(1, 1, 0));
        refuse("a 41st section, alignment 0", -4, map -> map.section(1, 0, 0));
        refuse("a 21st block", -4, map -> map.block(5));
        listRefusedByBlocks();
    }

    private void listRefusedByBlocks() {
        refuse("write octet -1", -2, map -> map.write(2, -1, (byte) 9));
        refuse("write behind the last octet", -2, map -> map.write(2, 32, (byte) 9));
        refuse("poke copy 0", -1, map -> map.poke(2, 0, 0, 9));
        refuse("poke copy 3", -1, map -> map.poke(2, 3, 0, 9));
        refuse("poke octet -1", -2, map -> map.poke(2, 1, -1, 9));
        refuse("poke behind the last octet", -2, map -> map.poke(2, 2, 32, 9));
    }

    /** Stands for an exception among answers: no call of the face answers it. */
    private static long exception() {
        return Long.MIN_VALUE;
    }

    private static long answer(ToLongFunction<MemoryMap> call, MemoryMap map) {
        try {
            return call.applyAsLong(map);
        } catch (ArithmeticException | ArrayIndexOutOfBoundsException e) {
            return exception();
        }
    }

    private void lookAtEach() {
        for (int look = 0; look < LOOKS; look++) {
            List<Long> due = answers(made(), look);
            for (Refused one : refused) {
                MemoryMap map = made();
                Check.same(one.text, answer(one.call, map), one.due);
                Check.same(one.text + " again", answer(one.call, map), one.due);
                Check.isTrue(one.text + ": look " + look + " is as without it", answers(map, look).equals(due));
            }
        }
    }

    private MemoryMap made() {
        MemoryMap map = new MemoryMap(100);
        switch (state) {
            case NOTHING -> { }
            case SOME -> makeSome(map);
            default -> makeAll(map);
        }
        return map;
    }

    /** Section 5 has no address; block 2 has one good copy, and block 3 none. */
    private static void makeSome(MemoryMap map) {
        map.region(10, 20, 7);
        map.region(40, 10, 1);
        map.region(60, 30, 3);
        map.section(5, 4, 1);
        map.section(0, 3, 7);
        map.section(8, 1, 0);
        map.place();
        map.section(12, 8, 3);
        map.place();
        map.section(10, 1, 4);
        map.call(1, 2, 5);
        map.call(2, 3, 7);
        map.call(3, 0, 9);
        map.call(4, 5, 1);
        map.call(5, 4, 1);
        map.block(3);
        map.block(32);
        map.block(1);
        makeOctets(map);
    }

    private static void makeAll(MemoryMap map) {
        for (int r = 0; r < 16; r++) {
            map.region(6L * r, r % 3 + 3, r % 2 == 0 ? 7 : 3);
        }
        for (int s = 0; s < 40; s++) {
            map.section(s % 3, s % 2 + 1, s % 4);
        }
        for (int p = 0; p < 52; p++) {
            map.place();
        }
        for (int f = 1; f <= 30; f++) {
            map.call(f, f == 30 ? 29 : f < 15 ? f + 2 : f == 16 ? 0 : 30, f);
        }
        for (int b = 0; b < 20; b++) {
            map.block(b == 1 ? 32 : b + 1);
        }
        makeOctets(map);
    }

    private static void makeOctets(MemoryMap map) {
        map.write(1, 0, (byte) 77);
        map.write(2, 31, (byte) -7);
        map.poke(2, 1, 31, 3);
        map.poke(3, 1, 0, 1);
        map.poke(3, 2, 0, 2);
    }

    private static List<Long> answers(MemoryMap map, int look) {
        List<Long> all = new ArrayList<>();
        if (look < 20) {
            lookAtBlock(map, look + 1, all);
            return all;
        }
        switch (look) {
            case 20 -> lookAtAddresses(map, all);
            case 21 -> lookAtPlacements(map, all);
            case 22 -> lookAtDepths(map, all);
            case 23 -> lookAtCalls(map, all);
            case 24 -> lookAtNextNumbers(map, all);
            default -> lookAtNextPlacement(map, all);
        }
        return all;
    }

    private static void lookAtBlock(MemoryMap map, int block, List<Long> all) {
        lookAtOctets(map, block, all);
        all.add((long) map.read(block));
        lookAtOctets(map, block, all);
    }

    private static void lookAtOctets(MemoryMap map, int block, List<Long> all) {
        for (int i = 0; i <= 32; i++) {
            all.add((long) map.poke(block, 1, i, 0));
            all.add((long) map.poke(block, 2, i, 0));
        }
    }

    private static void lookAtAddresses(MemoryMap map, List<Long> all) {
        for (int s = 0; s <= 41; s++) {
            all.add(map.at(s));
        }
        for (int address = 0; address < 100; address++) {
            all.add((long) map.cell(address));
        }
    }

    private static void lookAtPlacements(MemoryMap map, List<Long> all) {
        for (int p = 0; p <= 52; p++) {
            all.add((long) map.moved(p));
        }
    }

    private static void lookAtDepths(MemoryMap map, List<Long> all) {
        for (int f = 1; f <= 30; f++) {
            all.add(map.depth(f));
        }
    }

    private static void lookAtCalls(MemoryMap map, List<Long> all) {
        for (int f = 1; f <= 30; f++) {
            all.add((long) map.call(f, 0, 1));
        }
        lookAtDepths(map, all);
        for (int f = 1; f <= 30; f++) {
            all.add((long) map.call(f, 9, 1));
        }
    }

    private static void lookAtNextNumbers(MemoryMap map, List<Long> all) {
        for (int address = 0; address < 100; address++) {
            all.add((long) map.region(address, 1, 0));
        }
        for (int b = 0; b <= 20; b++) {
            all.add((long) map.block(1));
        }
        for (int s = 0; s <= 40; s++) {
            all.add((long) map.section(s, 1, 0));
        }
    }

    private static void lookAtNextPlacement(MemoryMap map, List<Long> all) {
        all.add((long) map.place());
        all.add((long) map.region(30, 10, 7));
        all.add((long) map.section(7, 1, 3));
        all.add((long) map.place());
        lookAtAddresses(map, all);
        lookAtPlacements(map, all);
    }
}
