/** Promise 7: depth. */
public final class DepthTest {
    public static void main(String[] args) {
        functionsOnBothSides();
        functionsThatAreFar();
        noCallYet();
        stackAlone();
        chainOfAll();
        chainOfAllWithGreatestStacks();
        greatestOfThoseCalled();
        stacksOfZero();
        waysThatMeetAgain();
        tooManyWaysToGoThemAll();
        ringOfOne();
        ringOfTwo();
        ringOfThirty();
        ringFarAway();
        ringOnOneWayOnly();
        ringWithoutAnyStack();
        ringThatIsNotReached();
        ringComesByTheLastCall();
        askingChangesNothing();
        Check.end();
    }

    private static void functionsOnBothSides() {
        Check.sentence("-2 there is no such FUNCTION");
        MemoryMap map = new MemoryMap(1);
        map.call(1, 0, 5);
        map.call(30, 0, 6);
        Check.same("depth(-1)", map.depth(-1), -2);
        Check.same("depth(0)", map.depth(0), -2);
        Check.same("depth(1)", map.depth(1), 5);
        Check.same("depth(30)", map.depth(30), 6);
        Check.same("depth(31)", map.depth(31), -2);
        Check.same("depth(32)", map.depth(32), -2);
        Check.same("depth(33)", map.depth(33), -2);
    }

    private static void functionsThatAreFar() {
        Check.sentence("-2 there is no such FUNCTION");
        MemoryMap map = new MemoryMap(1);
        map.call(1, 1, 5);
        for (int entry : Far.intsLike(1)) {
            Check.same("depth(" + entry + ")", map.depth(entry), -2);
        }
        Check.same("-1 is another answer", map.depth(1), -1);
    }

    private static void noCallYet() {
        Check.sentence("each with a STACK, at first 0");
        MemoryMap map = new MemoryMap(1);
        for (int f = 1; f <= 30; f++) {
            Check.same("depth(" + f + ")", map.depth(f), 0);
        }
    }

    private static void stackAlone() {
        Check.sentence("The DEPTH of a function is its STACK");
        MemoryMap map = new MemoryMap(1);
        for (int f = 1; f <= 30; f++) {
            map.call(f, 0, 1000000 - f);
        }
        for (int f = 1; f <= 30; f++) {
            Check.same("depth(" + f + ")", map.depth(f), 1000000 - f);
        }
    }

    private static void chainOfAll() {
        Check.sentence("its STACK and the greatest DEPTH of those that it CALLS");
        MemoryMap down = new MemoryMap(1);
        for (int f = 2; f <= 30; f++) {
            down.call(f, f - 1, f);
        }
        down.call(1, 0, 1);
        for (int f = 1; f <= 30; f++) {
            Check.same("down from " + f, down.depth(f), f * (f + 1) / 2);
        }
    }

    private static void chainOfAllWithGreatestStacks() {
        Check.sentence("its STACK and the greatest DEPTH of those that it CALLS");
        MemoryMap up = new MemoryMap(1);
        for (int f = 1; f < 30; f++) {
            up.call(f, f + 1, 1000000);
        }
        up.call(30, 0, 1000000);
        for (int f = 1; f <= 30; f++) {
            Check.same("up from " + f, up.depth(f), (31 - f) * 1000000L);
        }
    }

    private static void greatestOfThoseCalled() {
        Check.sentence("the greatest DEPTH of those that it CALLS");
        MemoryMap map = new MemoryMap(1);
        map.call(1, 2, 1);
        map.call(1, 3, 1);
        map.call(1, 5, 1);
        map.call(2, 4, 10);
        map.call(3, 4, 20);
        map.call(4, 0, 100);
        map.call(5, 0, 110);
        Check.same("by 3", map.depth(1), 121);
        map.call(5, 0, 120);
        Check.same("by 3 or 5", map.depth(1), 121);
        map.call(5, 0, 121);
        Check.same("by 5, by one", map.depth(1), 122);
        map.call(2, 4, 50);
        Check.same("by 2", map.depth(1), 151);
        map.call(4, 0, 0);
        Check.same("by 5 again", map.depth(1), 122);
    }

    private static void stacksOfZero() {
        Check.sentence("its STACK and the greatest DEPTH of those that it CALLS");
        MemoryMap map = new MemoryMap(1);
        map.call(1, 2, 0);
        map.call(2, 3, 0);
        Check.same("all 0", map.depth(1), 0);
        map.call(3, 0, 1);
        Check.same("the last has 1", map.depth(1), 1);
    }

    private static void waysThatMeetAgain() {
        Check.sentence("there is none if a way of CALLS from it comes to one that is on the way already");
        MemoryMap map = new MemoryMap(1);
        map.call(1, 2, 1);
        map.call(1, 3, 1);
        map.call(1, 4, 1);
        map.call(2, 4, 2);
        map.call(3, 4, 3);
        map.call(4, 0, 10);
        Check.same("4 is on three ways, on none twice", map.depth(1), 14);
    }

    /** There are 2 to the 28 ways from 1 to 30. */
    private static void tooManyWaysToGoThemAll() {
        Check.sentence("The DEPTH of a FUNCTION");
        MemoryMap map = new MemoryMap(1);
        for (int from = 1; from <= 30; from++) {
            for (int to = from + 1; to <= 30; to++) {
                map.call(from, to, from);
            }
        }
        map.call(30, 0, 30);
        Check.same("all one behind the other", map.depth(1), 465);
        map.call(30, 29, 30);
        Check.same("a ring at the end", map.depth(1), -1);
    }

    private static void ringOfOne() {
        Check.sentence("-1 if there is none by a ring");
        for (int f : new int[] {1, 2, 30}) {
            MemoryMap map = new MemoryMap(1);
            map.call(f, f, 5);
            Check.same(f + " calls itself", map.depth(f), -1);
            Check.same("another one does not", map.depth(f == 30 ? 29 : f + 1), 0);
        }
    }

    private static void ringOfTwo() {
        Check.sentence("-1 if there is none by a ring");
        MemoryMap map = new MemoryMap(1);
        map.call(1, 30, 5);
        Check.same("no ring yet", map.depth(1), 5);
        map.call(30, 1, 5);
        Check.same("from 1", map.depth(1), -1);
        Check.same("from 30", map.depth(30), -1);
    }

    private static void ringOfThirty() {
        Check.sentence("-1 if there is none by a ring");
        MemoryMap map = new MemoryMap(1);
        for (int f = 1; f < 30; f++) {
            map.call(f, f + 1, 1);
        }
        Check.same("not closed yet", map.depth(1), 29);
        map.call(30, 1, 1);
        for (int f = 1; f <= 30; f++) {
            Check.same("from " + f, map.depth(f), -1);
        }
    }

    private static void ringFarAway() {
        Check.sentence("if a way of CALLS from it comes to one that is on the way already");
        MemoryMap map = new MemoryMap(1);
        for (int f = 1; f < 30; f++) {
            map.call(f, f + 1, 1);
        }
        map.call(30, 30, 1);
        for (int f = 1; f <= 30; f++) {
            Check.same("from " + f, map.depth(f), -1);
        }
    }

    private static void ringOnOneWayOnly() {
        Check.sentence("if a way of CALLS from it comes to one that is on the way already");
        MemoryMap map = new MemoryMap(1);
        map.call(1, 2, 1);
        map.call(1, 3, 1);
        map.call(2, 0, 1000000);
        map.call(3, 4, 0);
        map.call(4, 3, 0);
        Check.same("one way is deep, another one rings", map.depth(1), -1);
        Check.same("the deep one alone", map.depth(2), 1000000);
    }

    private static void ringWithoutAnyStack() {
        Check.sentence("-1 if there is none by a ring");
        MemoryMap map = new MemoryMap(1);
        map.call(1, 2, 0);
        map.call(2, 1, 0);
        Check.same("stacks of 0", map.depth(1), -1);
    }

    private static void ringThatIsNotReached() {
        Check.sentence("if a way of CALLS from it comes to one that is on the way already");
        MemoryMap map = new MemoryMap(1);
        map.call(3, 4, 5);
        map.call(4, 5, 5);
        map.call(5, 3, 5);
        map.call(5, 6, 5);
        map.call(6, 7, 5);
        Check.same("the ring calls it", map.depth(6), 5);
        Check.same("it calls nothing", map.depth(7), 0);
        Check.same("it has nothing to do with it", map.depth(8), 0);
        Check.same("the ring itself", map.depth(5), -1);
    }

    private static void ringComesByTheLastCall() {
        Check.sentence("-1 if there is none by a ring");
        MemoryMap map = new MemoryMap(1);
        map.call(1, 2, 5);
        map.call(2, 3, 5);
        map.call(3, 0, 5);
        Check.same("before", map.depth(1), 15);
        Check.same("a refused call", map.call(3, 1, -1), -2);
        Check.same("makes no ring", map.depth(1), 15);
        map.call(3, 1, 5);
        Check.same("a good one does", map.depth(1), -1);
    }

    private static void askingChangesNothing() {
        Check.sentence("REFUSALS change nothing");
        MemoryMap map = new MemoryMap(1);
        map.call(1, 2, 5);
        map.call(2, 0, 6);
        map.call(3, 3, 7);
        for (int again = 0; again < 3; again++) {
            Check.same("depth(0)", map.depth(0), -2);
            Check.same("depth(31)", map.depth(31), -2);
            Check.same("depth(3)", map.depth(3), -1);
            Check.same("depth(1)", map.depth(1), 11);
            Check.same("depth(2)", map.depth(2), 6);
        }
        Check.same("calls of 1", map.call(1, 0, 5), 1);
    }
}
