/** One object that gets as many calls as the document promises, and not one more. */
final class LongRun {
    static final int CALLS = 512;

    private final MemoryMap map;
    private int calls = 0;

    LongRun(long size) {
        map = new MemoryMap(size);
    }

    /** The object itself; each call of it is told by next(). */
    MemoryMap map() {
        return map;
    }

    /** The object, for the one call that comes next. */
    MemoryMap next() {
        calls++;
        return map;
    }

    int left() {
        return CALLS - calls;
    }

    void end() {
        Check.same("calls in the run", calls, CALLS);
    }
}
