/** Promise 6: call. */
public final class CallTest {
    public static void main(String[] args) {
        noneYet();
        callersOnBothSides();
        calledOnBothSides();
        callersThatAreFar();
        calledThatAreFar();
        zeroIsNoFunction();
        stacksOnBothSides();
        stacksBeyond32Bits();
        sameOneIsCountedOnce();
        allThirty();
        eachHasItsOwn();
        unknownComesFirst();
        refusedOnesSetNoStack();
        refusedOnesAddNoCall();
        stackIsSetAnew();
        Check.end();
    }

    private static void noneYet() {
        Check.sentence("one that it CALLS (0: none more): how many it CALLS");
        MemoryMap map = new MemoryMap(1);
        Check.same("none", map.call(1, 0, 5), 0);
        Check.same("still none", map.call(1, 0, 5), 0);
        Check.same("one", map.call(1, 2, 5), 1);
        Check.same("none more", map.call(1, 0, 5), 1);
        Check.same("one more", map.call(1, 3, 5), 2);
        Check.same("none more", map.call(1, 0, 5), 2);
    }

    private static void callersOnBothSides() {
        Check.sentence("FUNCTIONS are 1 .. 30");
        MemoryMap map = new MemoryMap(1);
        Check.same("from -1", map.call(-1, 2, 5), -1);
        Check.same("from 0", map.call(0, 2, 5), -1);
        Check.same("from 1", map.call(1, 2, 5), 1);
        Check.same("from 30", map.call(30, 2, 5), 1);
        Check.same("from 31", map.call(31, 2, 5), -1);
        Check.same("from 32", map.call(32, 2, 5), -1);
    }

    private static void calledOnBothSides() {
        Check.sentence("FUNCTIONS are 1 .. 30");
        MemoryMap map = new MemoryMap(1);
        Check.same("to -1", map.call(5, -1, 5), -1);
        Check.same("to 31", map.call(5, 31, 5), -1);
        Check.same("to 32", map.call(5, 32, 5), -1);
        Check.same("to 33", map.call(5, 33, 5), -1);
        Check.same("to 0 is none", map.call(5, 0, 5), 0);
        Check.same("to 1", map.call(5, 1, 5), 1);
        Check.same("to 30", map.call(5, 30, 5), 2);
    }

    private static void callersThatAreFar() {
        Check.sentence("-1 there is no such FUNCTION");
        MemoryMap map = new MemoryMap(1);
        for (int from : Far.intsLike(1)) {
            Check.same("from " + from, map.call(from, 2, 5), -1);
            Check.same("from " + from + " to none", map.call(from, 0, 5), -1);
        }
        Check.same("1 is as before", map.depth(1), 0);
        Check.same("1 calls none", map.call(1, 0, 0), 0);
    }

    private static void calledThatAreFar() {
        Check.sentence("-1 there is no such FUNCTION");
        MemoryMap map = new MemoryMap(1);
        for (int to : Far.intsLike(2)) {
            Check.same("to " + to, map.call(1, to, 5), -1);
        }
        Check.same("1 is as before", map.depth(1), 0);
        Check.same("1 calls none", map.call(1, 0, 0), 0);
    }

    private static void zeroIsNoFunction() {
        Check.sentence("-1 there is no such FUNCTION");
        MemoryMap map = new MemoryMap(1);
        Check.same("from 0 to 0", map.call(0, 0, 5), -1);
        Check.same("from 0 to 1", map.call(0, 1, 5), -1);
        Check.same("from 0, stack too great", map.call(0, 0, 1000001), -1);
        map.call(1, 0, 5);
        Check.same("0 is in no way from 1", map.depth(1), 5);
    }

    private static void stacksOnBothSides() {
        Check.sentence("-2 the STACK is not 0 .. 1000000");
        MemoryMap map = new MemoryMap(1);
        Check.same("stack -1", map.call(1, 0, -1), -2);
        Check.same("stack -1000000", map.call(1, 0, -1000000), -2);
        Check.same("stack 1000001", map.call(1, 0, 1000001), -2);
        Check.same("stack 1000000", map.call(1, 0, 1000000), 0);
        Check.same("that is it", map.depth(1), 1000000);
        Check.same("stack 999999", map.call(1, 0, 999999), 0);
        Check.same("that is it", map.depth(1), 999999);
        Check.same("stack 1", map.call(1, 0, 1), 0);
        Check.same("that is it", map.depth(1), 1);
        Check.same("stack 0", map.call(1, 0, 0), 0);
        Check.same("that is it", map.depth(1), 0);
    }

    private static void stacksBeyond32Bits() {
        Check.sentence("-2 the STACK is not 0 .. 1000000");
        for (long good : new long[] {0, 8, 1000000}) {
            MemoryMap map = new MemoryMap(1);
            map.call(1, 2, 7);
            for (long stack : Far.longsLike(good)) {
                Check.same("stack " + stack, map.call(1, 3, stack), -2);
            }
            Check.same("the stack is as before", map.depth(1), 7);
            Check.same("the calls are as before", map.call(1, 0, 7), 1);
        }
    }

    private static void sameOneIsCountedOnce() {
        Check.sentence("how many it CALLS");
        MemoryMap map = new MemoryMap(1);
        Check.same("one", map.call(1, 2, 5), 1);
        Check.same("the same one", map.call(1, 2, 5), 1);
        Check.same("the same one with another stack", map.call(1, 2, 6), 1);
        Check.same("another one", map.call(1, 30, 6), 2);
        Check.same("the first one again", map.call(1, 2, 6), 2);
        Check.same("itself", map.call(1, 1, 6), 3);
        Check.same("itself again", map.call(1, 1, 6), 3);
    }

    private static void allThirty() {
        Check.sentence("how many it CALLS");
        for (int from : new int[] {1, 15, 30}) {
            MemoryMap map = new MemoryMap(1);
            for (int to = 1; to <= 30; to++) {
                Check.same(from + " calls " + to, map.call(from, to, 0), to);
            }
            for (int to = 0; to <= 30; to++) {
                Check.same(from + " calls all", map.call(from, to, 0), 30);
            }
            Check.same("one more is none", map.call(from, 31, 0), -1);
        }
    }

    private static void eachHasItsOwn() {
        Check.sentence("A FUNCTION's STACK, and one that it CALLS");
        MemoryMap map = new MemoryMap(1);
        map.call(15, 7, 9);
        for (int f = 1; f <= 30; f++) {
            Check.same("depth of " + f, map.depth(f), f == 15 ? 9 : 0);
        }
        for (int f = 1; f <= 30; f++) {
            Check.same("calls of " + f, map.call(f, 0, 0), f == 15 ? 1 : 0);
        }
    }

    private static void unknownComesFirst() {
        Check.sentence("REFUSALS change nothing and answer, the first that fits");
        MemoryMap map = new MemoryMap(1);
        Check.same("from 31, stack -1", map.call(31, 1, -1), -1);
        Check.same("from 0, stack 1000001", map.call(0, 1, 1000001), -1);
        Check.same("to 31, stack -1", map.call(1, 31, -1), -1);
        Check.same("to -1, stack 1000001", map.call(1, -1, 1000001), -1);
        Check.same("to 0, stack -1", map.call(1, 0, -1), -2);
        Check.same("to 30, stack 1000001", map.call(30, 30, 1000001), -2);
    }

    private static void refusedOnesSetNoStack() {
        Check.sentence("REFUSALS change nothing");
        MemoryMap map = new MemoryMap(1);
        map.call(1, 0, 5);
        Check.same("no such called one", map.call(1, 31, 9), -1);
        Check.same("the stack is as before", map.depth(1), 5);
        Check.same("called one below 0", map.call(1, -1, 9), -1);
        Check.same("the stack is as before", map.depth(1), 5);
        Check.same("stack 1000001", map.call(1, 0, 1000001), -2);
        Check.same("the stack is as before", map.depth(1), 5);
        Check.same("stack -1", map.call(1, 0, -1), -2);
        Check.same("the stack is as before", map.depth(1), 5);
    }

    private static void refusedOnesAddNoCall() {
        Check.sentence("REFUSALS change nothing");
        MemoryMap map = new MemoryMap(1);
        map.call(1, 0, 5);
        map.call(2, 0, 100);
        Check.same("stack 1000001", map.call(1, 2, 1000001), -2);
        Check.same("stack -1", map.call(1, 2, -1), -2);
        Check.same("no way to 2", map.depth(1), 5);
        Check.same("a ring is none either", map.call(1, 1, -1), -2);
        Check.same("no way to itself", map.depth(1), 5);
        Check.same("it calls none", map.call(1, 0, 5), 0);
    }

    private static void stackIsSetAnew() {
        Check.sentence("A FUNCTION's STACK");
        MemoryMap map = new MemoryMap(1);
        map.call(1, 2, 1000000);
        map.call(1, 0, 7);
        Check.same("a smaller one", map.depth(1), 7);
        map.call(1, 2, 9);
        Check.same("a greater one, with a call that was there", map.depth(1), 9);
        map.call(1, 3, 0);
        Check.same("0, with a call more", map.depth(1), 0);
        map.call(2, 0, 4);
        Check.same("that of a called one", map.depth(1), 4);
        Check.same("its own", map.depth(2), 4);
    }
}
