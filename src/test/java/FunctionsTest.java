/** Promises 6 and 7: call, depth. */
public final class FunctionsTest {
    public static void main(String[] args) {
        callsAreCounted();
        callsThatAreRefused();
        stacksAreSetAnew();
        depthOfAChain();
        deepestWayCounts();
        rings();
        functionsThatAreNone();
        everyFunctionCallsEveryLaterOne();
        Check.end();
    }

    private static void callsAreCounted() {
        MemoryMap map = new MemoryMap(1);
        Check.same("none", map.call(1, 0, 5), 0);
        Check.same("one", map.call(1, 2, 5), 1);
        Check.same("the same one", map.call(1, 2, 5), 1);
        Check.same("another one", map.call(1, 30, 5), 2);
        Check.same("none more", map.call(1, 0, 5), 2);
        Check.same("itself", map.call(1, 1, 5), 3);
        Check.same("those of another function", map.call(2, 0, 5), 0);
        for (int to = 1; to <= 30; to++) {
            Check.same("30 calls " + to, map.call(30, to, 0), to);
        }
    }

    private static void callsThatAreRefused() {
        MemoryMap map = new MemoryMap(1);
        map.call(1, 2, 5);
        Check.same("from 0", map.call(0, 1, 1), -1);
        Check.same("from -1", map.call(-1, 1, 1), -1);
        Check.same("from 31", map.call(31, 1, 1), -1);
        Check.same("from the least", map.call(Integer.MIN_VALUE, 1, 1), -1);
        Check.same("from the greatest", map.call(Integer.MAX_VALUE, 1, 1), -1);
        Check.same("to -1", map.call(1, -1, 1), -1);
        Check.same("to 31", map.call(1, 31, 1), -1);
        Check.same("to 32", map.call(1, 32, 1), -1);
        Check.same("stack -1", map.call(1, 3, -1), -2);
        Check.same("stack 1000001", map.call(1, 3, 1000001), -2);
        Check.same("stack beyond an int", map.call(1, 3, 4294967296L), -2);
        Check.same("unknown comes first", map.call(31, 3, -1), -1);
        Check.same("unknown callee comes first", map.call(1, 31, -1), -1);
        Check.same("the stack is as before", map.depth(1), 5);
        Check.same("the calls are as before", map.call(1, 0, 5), 1);
    }

    private static void stacksAreSetAnew() {
        MemoryMap map = new MemoryMap(1);
        map.call(1, 0, 1000000);
        Check.same("the greatest stack", map.depth(1), 1000000);
        map.call(1, 0, 7);
        Check.same("a smaller one", map.depth(1), 7);
        map.call(1, 2, 9);
        Check.same("with a call", map.depth(1), 9);
        map.call(1, 0, 0);
        Check.same("none", map.depth(1), 0);
        map.call(2, 0, 4);
        Check.same("that of the called one", map.depth(1), 4);
    }

    private static void depthOfAChain() {
        MemoryMap up = new MemoryMap(1);
        MemoryMap down = new MemoryMap(1);
        for (int f = 1; f < 30; f++) {
            up.call(f, f + 1, 1000000);
            down.call(f + 1, f, f + 1);
        }
        up.call(30, 0, 1000000);
        down.call(1, 0, 1);
        for (int f = 1; f <= 30; f++) {
            Check.same("up from " + f, up.depth(f), (31 - f) * 1000000L);
            Check.same("down from " + f, down.depth(f), f * (f + 1) / 2);
        }
    }

    private static void deepestWayCounts() {
        MemoryMap map = new MemoryMap(1);
        map.call(1, 2, 1);
        map.call(1, 3, 1);
        map.call(2, 4, 10);
        map.call(3, 4, 20);
        map.call(4, 0, 100);
        map.call(1, 5, 1);
        map.call(5, 0, 110);
        Check.same("by 3", map.depth(1), 121);
        map.call(5, 0, 121);
        Check.same("by 5", map.depth(1), 122);
        map.call(2, 4, 50);
        Check.same("by 2", map.depth(1), 151);
    }

    private static void rings() {
        MemoryMap map = new MemoryMap(1);
        map.call(1, 1, 5);
        Check.same("itself", map.depth(1), -1);
        map.call(2, 1, 5);
        Check.same("calls one that calls itself", map.depth(2), -1);
        map.call(3, 4, 5);
        map.call(4, 5, 5);
        Check.same("no ring yet", map.depth(3), 10);
        map.call(5, 3, 5);
        for (int f = 3; f <= 5; f++) {
            Check.same("in a ring of three", map.depth(f), -1);
        }
        map.call(6, 7, 5);
        map.call(5, 6, 5);
        Check.same("called from a ring, but no way into it", map.depth(6), 5);
        map.call(7, 8, 5);
        map.call(8, 30, 5);
        map.call(30, 29, 5);
        Check.same("far from a ring", map.depth(6), 20);
        map.call(29, 30, 5);
        Check.same("far way into a ring", map.depth(6), -1);
        Check.same("another function", map.depth(9), 0);
    }

    private static void functionsThatAreNone() {
        MemoryMap map = new MemoryMap(1);
        int[] none = {0, -1, 31, 32, Integer.MIN_VALUE, Integer.MAX_VALUE};
        for (int entry : none) {
            Check.same("depth(" + entry + ")", map.depth(entry), -2);
        }
        Check.same("depth(30)", map.depth(30), 0);
    }

    /** There are 2 to the 28 ways from 1 to 30: too many to go them one by one. */
    private static void everyFunctionCallsEveryLaterOne() {
        MemoryMap map = new MemoryMap(1);
        for (int from = 1; from <= 30; from++) {
            for (int to = from + 1; to <= 30; to++) {
                map.call(from, to, from);
            }
        }
        map.call(30, 0, 30);
        Check.same("all one behind the other", map.depth(1), 465);
    }
}
