import java.util.Random;

/** Runs of 512 calls, the same ones each time, answered as by the plain model. */
public final class ModelTest {
    private static final int RUNS = 1600;
    private static final long[] FAR = {
        Long.MIN_VALUE, Long.MIN_VALUE + 2, -4294967296L, -1L, 0L, 65536L, 65537L, 4294967296L, 4294967297L,
        Long.MAX_VALUE,
    };
    private static final int[] FAR_INTS = {Integer.MIN_VALUE, -1, 0, 8, 31, 32, 33, 41, 51, Integer.MAX_VALUE};

    private enum Method { REGION, SECTION, PLACE, AT, CELL, MOVED, CALL, DEPTH, BLOCK, WRITE, POKE, READ }

    /** How often each method is called, of 100 calls: runs of all kinds, and runs that go far in one. */
    private static final int[][] WEIGHTS = {
        {7, 5, 14, 8, 8, 8, 10, 10, 3, 7, 10, 10},
        {6, 12, 32, 16, 17, 17, 0, 0, 0, 0, 0, 0},
        {0, 0, 0, 0, 0, 0, 50, 50, 0, 0, 0, 0},
        {0, 0, 0, 0, 0, 0, 0, 0, 8, 26, 36, 30},
    };

    private final Random random;
    private final MemoryMap map;
    private final PlainModel model;
    private final int size;
    private final int[] weights;
    /** A method that half of the runs call far more often than the others. */
    private final int favourite;
    private final boolean favours;
    /** Some runs have short sections, short regions or few rings, so that there is room for more. */
    private final int greatestLength;
    private final int greatestRegion;
    private final int ringsOneIn;
    private String where;

    private ModelTest(int run) {
        random = new Random(run);
        size = isGreat(run) ? 65536 : 1 + random.nextInt(600);
        map = new MemoryMap(size);
        model = new PlainModel(size);
        weights = WEIGHTS[run % WEIGHTS.length];
        favourite = byWeight();
        favours = random.nextBoolean();
        greatestLength = 1 + random.nextInt(1 + size / (2 + random.nextInt(60)));
        greatestRegion = 1 + size / (4 + random.nextInt(40));
        ringsOneIn = 2 + random.nextInt(300);
    }

    public static void main(String[] args) {
        for (int run = 0; run < RUNS; run++) {
            ModelTest test = new ModelTest(run);
            // The model goes octet by octet, so a great map is given fewer calls.
            int calls = isGreat(run) ? LongRun.CALLS / 8 : LongRun.CALLS;
            for (int i = 1; i <= calls; i++) {
                test.where = "run " + run + ", call " + i + ": ";
                test.step();
            }
        }
        Check.end();
    }

    private static boolean isGreat(int run) {
        return run % 40 < 2;
    }

    private void step() {
        switch (chosen()) {
            case REGION -> region();
            case SECTION -> section();
            case PLACE -> both("place", map::place, model::place);
            case AT -> at();
            case CELL -> cell();
            case MOVED -> moved();
            case CALL -> call();
            case DEPTH -> depth();
            case BLOCK -> block();
            case WRITE -> write();
            case POKE -> poke();
            default -> read();
        }
    }

    private Method chosen() {
        boolean again = favours && random.nextInt(3) != 0;
        return Method.values()[again ? favourite : byWeight()];
    }

    private int byWeight() {
        int rest = random.nextInt(100);
        int method = 0;
        while (rest >= weights[method]) {
            rest -= weights[method];
            method++;
        }
        return method;
    }

    private void region() {
        long from = far(random.nextInt(size + 1));
        long n = far(random.nextInt(1 + greatestRegion));
        int rights = farInt(random.nextBoolean() ? 7 : random.nextInt(8));
        both("region", () -> map.region(from, n, rights), () -> model.region(from, n, rights));
    }

    private void section() {
        long n = far(random.nextInt(1 + greatestLength));
        long align = far(random.nextBoolean() ? random.nextInt(20) : 1 << random.nextInt(5));
        int kind = farInt(random.nextInt(8) & random.nextInt(8));
        both("section", () -> map.section(n, align, kind), () -> model.section(n, align, kind));
    }

    private void at() {
        int section = farInt(random.nextInt(43));
        both("at", () -> map.at(section), () -> model.at(section));
    }

    private void cell() {
        long address = far(random.nextInt(size + 2) - 1);
        both("cell", () -> map.cell(address), () -> model.cell(address));
    }

    private void moved() {
        int before = farInt(random.nextInt(54));
        both("moved", () -> map.moved(before), () -> model.moved(before));
    }

    private void call() {
        int a = 1 + random.nextInt(30);
        int b = random.nextInt(31);
        boolean mayRing = random.nextInt(ringsOneIn) == 0;
        int from = farInt(mayRing || b == 0 ? a : Math.min(a, b));
        int to = farInt(mayRing || b == 0 ? b : a == b ? 0 : Math.max(a, b));
        long stack = far(random.nextInt(1000001));
        both("call", () -> map.call(from, to, stack), () -> model.call(from, to, stack));
    }

    private void depth() {
        int entry = farInt(random.nextInt(32));
        both("depth", () -> map.depth(entry), () -> model.depth(entry));
    }

    private void block() {
        long n = far(random.nextInt(34));
        both("block", () -> map.block(n), () -> model.block(n));
    }

    private void write() {
        int block = blockNumber();
        int i = octet();
        byte b = (byte) random.nextInt(256);
        both("write", () -> map.write(block, i, b), () -> model.write(block, i, b));
    }

    private void poke() {
        int block = blockNumber();
        int copy = farInt(1 + random.nextInt(2));
        int i = octet();
        int mask = random.nextBoolean() ? 0 : random.nextInt();
        both("poke", () -> map.poke(block, copy, i, mask), () -> model.poke(block, copy, i, mask));
    }

    private void read() {
        int block = blockNumber();
        both("read", () -> map.read(block), () -> model.read(block));
    }

    private int blockNumber() {
        return farInt(random.nextInt(4) == 0 ? random.nextInt(22) : 1 + random.nextInt(3));
    }

    private int octet() {
        return farInt(random.nextInt(1 + random.nextInt(33)));
    }

    private long far(long near) {
        return random.nextInt(25) == 0 ? FAR[random.nextInt(FAR.length)] : near;
    }

    private int farInt(int near) {
        return random.nextInt(40) == 0 ? FAR_INTS[random.nextInt(FAR_INTS.length)] : near;
    }

    private void both(String method, Check.Call got, Check.Call due) {
        long answer;
        try {
            answer = due.answer();
        } catch (ArithmeticException | ArrayIndexOutOfBoundsException e) {
            Check.throwsExactly(where + method, e.getClass(), got);
            return;
        }
        Check.same(where + method, got.answer(), answer);
    }
}
