import java.util.Random;

/** Runs of 512 calls, the same ones each time, answered as by the plain model. */
public final class ModelTest {
    private static final int RUNS = 1500;
    private static final int CALLS = 512;
    private static final long[] FAR = {
        Long.MIN_VALUE, Long.MIN_VALUE + 2, -4294967296L, -1L, 0L, 65536L, 65537L, 4294967296L, 4294967297L,
        Long.MAX_VALUE,
    };
    private static final int[] FAR_INTS = {Integer.MIN_VALUE, -1, 0, 8, 31, 32, 33, 41, 51, Integer.MAX_VALUE};

    private final Random random;
    private final MemoryMap map;
    private final PlainModel model;
    private final int size;
    private final String name;
    /** Some runs have few sections or calls, so that placings succeed and rings stay away. */
    private final int greatestLength;
    private final int ringsOneIn;

    private ModelTest(int run) {
        random = new Random(run);
        size = run % 50 == 0 ? 65536 : 1 + random.nextInt(600);
        map = new MemoryMap(size);
        model = new PlainModel(size);
        name = "run " + run;
        greatestLength = 1 + random.nextInt(1 + size / (2 + random.nextInt(60)));
        ringsOneIn = 2 + random.nextInt(300);
    }

    public static void main(String[] args) {
        for (int run = 0; run < RUNS; run++) {
            ModelTest test = new ModelTest(run);
            int calls = run % 50 == 0 ? CALLS / 8 : CALLS;
            for (int i = 0; i < calls; i++) {
                test.step(i);
            }
        }
        Check.end();
    }

    private void step(int i) {
        int choice = random.nextInt(100);
        if (choice < 50) {
            memoryStep(choice, name + ", call " + i + ": ");
        } else if (choice < 70) {
            functionStep(choice, name + ", call " + i + ": ");
        } else {
            blockStep(choice, name + ", call " + i + ": ");
        }
    }

    private void memoryStep(int choice, String where) {
        if (choice < 7) {
            long from = far(random.nextInt(size + 1));
            long n = far(random.nextInt(2 + size / 8));
            int rights = farInt(random.nextBoolean() ? 7 : random.nextInt(8));
            both(where + "region", () -> map.region(from, n, rights), () -> model.region(from, n, rights));
        } else if (choice < 12) {
            long n = far(random.nextInt(1 + greatestLength));
            long align = far(random.nextBoolean() ? random.nextInt(20) : 1 << random.nextInt(5));
            int kind = farInt(random.nextInt(8) & random.nextInt(8));
            both(where + "section", () -> map.section(n, align, kind), () -> model.section(n, align, kind));
        } else if (choice < 26) {
            both(where + "place", map::place, model::place);
        } else if (choice < 34) {
            int section = farInt(random.nextInt(43));
            both(where + "at", () -> map.at(section), () -> model.at(section));
        } else if (choice < 42) {
            long address = far(random.nextInt(size + 2) - 1);
            both(where + "cell", () -> map.cell(address), () -> model.cell(address));
        } else {
            int before = farInt(random.nextInt(54));
            both(where + "moved", () -> map.moved(before), () -> model.moved(before));
        }
    }

    private void functionStep(int choice, String where) {
        if (choice < 60) {
            int a = 1 + random.nextInt(30);
            int b = random.nextInt(31);
            boolean mayRing = random.nextInt(ringsOneIn) == 0;
            int from = farInt(mayRing || b == 0 ? a : Math.min(a, b));
            int to = farInt(mayRing || b == 0 ? b : a == b ? 0 : Math.max(a, b));
            long stack = far(random.nextInt(1000001));
            both(where + "call", () -> map.call(from, to, stack), () -> model.call(from, to, stack));
        } else {
            int entry = farInt(random.nextInt(32));
            both(where + "depth", () -> map.depth(entry), () -> model.depth(entry));
        }
    }

    private void blockStep(int choice, String where) {
        int block = farInt(random.nextInt(4) == 0 ? random.nextInt(22) : 1 + random.nextInt(3));
        int i = farInt(random.nextInt(1 + random.nextInt(33)));
        if (choice < 73) {
            long n = far(random.nextInt(34));
            both(where + "block", () -> map.block(n), () -> model.block(n));
        } else if (choice < 80) {
            byte b = (byte) random.nextInt(256);
            both(where + "write", () -> map.write(block, i, b), () -> model.write(block, i, b));
        } else if (choice < 90) {
            int copy = farInt(1 + random.nextInt(2));
            int mask = random.nextBoolean() ? 0 : random.nextInt();
            both(where + "poke", () -> map.poke(block, copy, i, mask), () -> model.poke(block, copy, i, mask));
        } else {
            both(where + "read", () -> map.read(block), () -> model.read(block));
        }
    }

    private long far(long near) {
        return random.nextInt(25) == 0 ? FAR[random.nextInt(FAR.length)] : near;
    }

    private int farInt(int near) {
        return random.nextInt(40) == 0 ? FAR_INTS[random.nextInt(FAR_INTS.length)] : near;
    }

    private static void both(String what, Check.Call got, Check.Call due) {
        long answer;
        try {
            answer = due.answer();
        } catch (ArithmeticException | ArrayIndexOutOfBoundsException e) {
            Check.throwsExactly(what, e.getClass(), got);
            return;
        }
        Check.same(what, got.answer(), answer);
    }
}
