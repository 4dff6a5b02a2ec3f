/** Each promise over a run of 512 calls on one object: what it says holds for the last of them, too. */
public final class LongRunsTest {
    private static final String WORDS = "An object is used for at most 512 calls after it has been made";

    public static void main(String[] args) {
        sizes(1, 1);
        sizes(0, 4096);
        sizes(65536, 65536);
        regionsBetweenRefusals();
        sectionsBetweenRefusals();
        placingsBetweenFailures();
        firstPlacementComesLate();
        addressesOfGrowingSections();
        callsOfAll();
        callsOfTheSame();
        depthsOfAChain();
        depthsWithARingAtTheEnd();
        blocksBetweenRefusals();
        writesToAll();
        writesToOne();
        pokesOfOneOctet();
        readsThatMend();
        readsOfAll();
        cellsOfGrowingSections();
        cellsWithoutPlacing();
        movedSinceTheKept();
        movedBetweenFailures();
        Check.end();
    }

    private static LongRun begin(String promise, long size) {
        Check.sentence(WORDS + ": " + promise);
        return new LongRun(size);
    }

    private static void sizes(long size, long addresses) {
        LongRun run = begin("a new object", size);
        while (run.left() > 4) {
            Check.same("the first address", run.next().cell(0), -1);
            Check.same("the last address", run.next().cell(addresses - 1), -1);
            cellThrows(run, addresses);
            cellThrows(run, -1);
        }
        Check.same("one address too many", run.next().region(0, addresses + 1, 0), -2);
        Check.same("all addresses", run.next().region(0, addresses, 0), 1);
        Check.same("the last address", run.next().cell(addresses - 1), -1);
        cellThrows(run, addresses);
        run.end();
    }

    private static void cellThrows(LongRun run, long address) {
        MemoryMap map = run.next();
        Check.throwsExactly("cell(" + address + ")", ArrayIndexOutOfBoundsException.class, () -> map.cell(address));
    }

    private static void alignmentZeroThrows(LongRun run) {
        MemoryMap map = run.next();
        Check.throwsExactly("alignment 0", ArithmeticException.class, () -> map.section(7, 0, 0));
    }

    private static void regionsBetweenRefusals() {
        LongRun run = begin("region", 1000);
        for (int r = 1; r <= 16; r++) {
            for (int again = 0; again < 9; again++) {
                Check.same("n 0", run.next().region(50L * r, 0, 7), -2);
                Check.same("rights 8", run.next().region(50L * r, 50, 8), -2);
            }
            Check.same("region " + r, run.next().region(50L * r, 40, r % 8), r);
            for (int before = 1; before <= r && before <= 10; before++) {
                Check.same("over " + before, run.next().region(50L * before - 10, 11, 7), -3);
            }
        }
        while (run.left() > 2) {
            Check.same("a 17th", run.next().region(0, 50, 7), -4);
        }
        Check.same("a 17th over the 16th", run.next().region(839, 1, 7), -3);
        Check.same("a 17th behind the 16th", run.next().region(840, 1, 7), -4);
        run.end();
    }

    private static void sectionsBetweenRefusals() {
        LongRun run = begin("section", 1000);
        Check.same("region", run.next().region(0, 400, 7), 1);
        for (int s = 1; s <= 40; s++) {
            for (int again = 0; again < 3; again++) {
                alignmentZeroThrows(run);
                Check.same("length -1", run.next().section(-1, 1, 0), -2);
                Check.same("alignment 65537", run.next().section(7, 65537, 0), -2);
            }
            Check.same("section " + s, run.next().section(10, 1, 0), s);
        }
        Check.same("40 of length 10 in 400 octets", run.next().place(), 1);
        while (run.left() > 42) {
            Check.same("a 41st", run.next().section(1, 1, 0), -4);
            Check.same("a 41st, alignment 0", run.next().section(1, 0, 0), -4);
            Check.same("a 41st, kind 8", run.next().section(1, 1, 8), -2);
        }
        for (int s = 1; s <= 40; s++) {
            Check.same("section " + s, run.next().at(s), (s - 1) * 10);
        }
        while (run.left() > 0) {
            Check.same("all of them again", run.next().place(), 1);
        }
        run.end();
    }

    /** Section s fits into region s alone, which comes only after some placings have failed. */
    private static void placingsBetweenFailures() {
        LongRun run = begin("place", 1000);
        for (int s = 1; s <= 16; s++) {
            Check.same("section " + s, run.next().section(s, 1, 0), s);
            for (int again = 0; again < 9; again++) {
                Check.same("no address for " + s, run.next().place(), -s);
                Check.same(s + " is not placed", run.next().at(s), -3);
            }
            Check.same("the one before stays", run.next().at(s - 1), s == 1 ? -1 : 50L * (s - 1));
            Check.same("region " + s, run.next().region(50L * s, s, 0), s);
            for (int again = 0; again < 5; again++) {
                Check.same("place", run.next().place(), 1);
                Check.same(s + " is placed", run.next().at(s), 50L * s);
            }
        }
        Check.same("80 placements, of which 50 are kept", run.next().moved(50), 0);
        Check.same("51 is not", run.next().moved(51), -1);
        Check.same("a section that fits nowhere", run.next().section(17, 1, 0), 17);
        while (run.left() > 1) {
            Check.same("no address for 17", run.next().place(), -17);
        }
        Check.same("16 stays", run.next().at(16), 800);
        run.end();
    }

    private static void firstPlacementComesLate() {
        LongRun run = begin("place", 100);
        Check.same("region", run.next().region(3, 21, 0), 1);
        Check.same("section 1", run.next().section(3, 1, 0), 1);
        Check.same("section 2", run.next().section(5, 6, 0), 2);
        Check.same("section 3", run.next().section(12, 5, 0), 3);
        while (run.left() > 7) {
            Check.same("no address for 1", run.next().place(), -1);
            Check.same("no placement", run.next().moved(1), -1);
        }
        Check.same("a region for 1 alone", run.next().region(97, 3, 0), 2);
        Check.same("place", run.next().place(), 1);
        Check.same("section 3 first", run.next().at(3), 5);
        Check.same("then 2", run.next().at(2), 18);
        Check.same("then 1", run.next().at(1), 97);
        Check.same("the first placement", run.next().moved(1), 0);
        run.end();
    }

    /** Where section s is when there are k of them, each longer by one than the one before it. */
    private static long startOf(int s, int k) {
        return (k * (k + 1) - s * (s + 1)) / 2;
    }

    private static void addressesOfGrowingSections() {
        LongRun run = begin("at", 1000);
        Check.same("region", run.next().region(0, 820, 0), 1);
        for (int k = 1; k <= 40; k++) {
            Check.same("section " + k, run.next().section(k, 1, 0), k);
            Check.same("not placed yet", run.next().at(k), -3);
            Check.same("place", run.next().place(), 1);
            Check.same("no such section", run.next().at(k + 1), -1);
            for (int s = Math.max(1, k - 6); s <= k; s++) {
                Check.same("section " + s + " of " + k, run.next().at(s), startOf(s, k));
            }
        }
        while (run.left() > 40) {
            Check.same("place", run.next().place(), 1);
        }
        for (int s = 1; s <= 40; s++) {
            Check.same("section " + s + " of 40", run.next().at(s), startOf(s, 40));
        }
        run.end();
    }

    private static void callsOfAll() {
        LongRun run = begin("call", 1);
        for (int round = 1; round <= 16; round++) {
            for (int f = 1; f <= 30; f++) {
                Check.same(f + " in round " + round, run.next().call(f, (f + round) % 30 + 1, 5), round);
            }
        }
        for (int f = 1; f <= 30; f++) {
            Check.same(f + " calls one again", run.next().call(f, (f + 7) % 30 + 1, 0), 16);
        }
        Check.same("no such function", run.next().call(31, 1, 5), -1);
        Check.same("one more", run.next().call(1, 1, 5), 17);
        run.end();
    }

    private static void callsOfTheSame() {
        LongRun run = begin("call", 1);
        Check.same("30 has a stack", run.next().call(30, 0, 900000), 0);
        while (run.left() > 5) {
            Check.same("the same call", run.next().call(1, 30, run.left()), 1);
            Check.same("none more", run.next().call(1, 0, 3), 1);
            Check.same("no such stack", run.next().call(1, 2, 1000001), -2);
            Check.same("no such function", run.next().call(1, 31, 7), -1);
            Check.same("the stack that was set last", run.next().depth(1), 900003);
        }
        Check.same("the stack that was set last", run.next().depth(1), 900003);
        run.end();
    }

    private static void depthsOfAChain() {
        LongRun run = begin("depth", 1);
        long[] stacks = new long[31];
        for (int f = 1; f < 30; f++) {
            run.next().call(f, f + 1, 0);
        }
        int turn = 0;
        while (run.left() > 1) {
            int f = turn * 7 % 30 + 1;
            stacks[f] = (turn + 1) * 3907L;
            run.next().call(f, 0, stacks[f]);
            int entry = turn % 29 + 1;
            Check.same("from " + entry, run.next().depth(entry), sumFrom(stacks, entry));
            turn++;
        }
        Check.same("from 1", run.next().depth(1), sumFrom(stacks, 1));
        run.end();
    }

    private static long sumFrom(long[] stacks, int entry) {
        long sum = 0;
        for (int f = entry; f <= 30; f++) {
            sum += stacks[f];
        }
        return sum;
    }

    private static void depthsWithARingAtTheEnd() {
        LongRun run = begin("depth", 1);
        for (int f = 1; f <= 30; f++) {
            run.next().call(f, f < 20 ? f + 1 : 0, f);
        }
        while (run.left() > 21) {
            int f = run.left() % 30 + 1;
            Check.same("from " + f, run.next().depth(f), f > 20 ? f : 210 - f * (f - 1) / 2);
        }
        Check.same("a ring", run.next().call(20, 1, 20), 1);
        for (int f = 1; f <= 20; f++) {
            Check.same("from " + f, run.next().depth(f), -1);
        }
        run.end();
    }

    private static void blocksBetweenRefusals() {
        LongRun run = begin("block", 1);
        for (int b = 1; b <= 20; b++) {
            for (int again = 0; again < 9; again++) {
                Check.same("n 0", run.next().block(0), -2);
                Check.same("n 33", run.next().block(33), -2);
            }
            Check.same("block " + b, run.next().block(b + 12), b);
        }
        for (int b = 1; b <= 20; b++) {
            Check.same("good", run.next().read(b), 1);
            Check.same("its last octet", run.next().poke(b, 1 + b % 2, b + 11, 0), 0);
            Check.same("behind it", run.next().poke(b, 1 + b % 2, b + 12, 0), -2);
        }
        while (run.left() > 0) {
            Check.same("a 21st", run.next().block(1), -4);
        }
        run.end();
    }

    private static void writesToAll() {
        LongRun run = begin("write", 1);
        for (int b = 1; b <= 20; b++) {
            run.next().block(11);
        }
        for (int i = 0; i < 11; i++) {
            for (int b = 1; b <= 20; b++) {
                Check.same("write", run.next().write(b, i, (byte) (20 * i + b)), 1);
            }
        }
        for (int i = 0; i < 11; i++) {
            for (int b = 1; b <= 20; b++) {
                Check.same("octet " + i + " of " + b, run.next().poke(b, 1 + (i + b) % 2, i, 0), 20 * i + b);
            }
        }
        for (int b = 1; b <= 20; b++) {
            run.next().poke(b, 1, 5, 1);
            Check.same("copy 2 of " + b + " is good", run.next().read(b), 2);
        }
        while (run.left() > 0) {
            Check.same("as copy 2", run.next().poke(1, 1, 5, 0), 101);
        }
        run.end();
    }

    private static void writesToOne() {
        LongRun run = begin("write", 1);
        run.next().block(32);
        int turn = 0;
        while (run.left() >= 3) {
            int i = turn * 5 % 32;
            run.next().poke(1, 1, i, turn);
            Check.same("write", run.next().write(1, i, (byte) turn), 1);
            Check.same("what was written", run.next().poke(1, 1 + turn % 2, i, 0), turn & 255);
            turn++;
        }
        Check.same("good", run.next().read(1), 1);
        run.end();
    }

    private static void pokesOfOneOctet() {
        LongRun run = begin("poke", 1);
        run.next().block(2);
        int[] due = new int[2];
        for (int turn = 1; run.left() > 2; turn++) {
            int copy = turn / 2 % 2;
            due[copy] ^= turn * 77 & 255;
            Check.same("poke " + turn, run.next().poke(1, copy + 1, 1, turn * 77), due[copy]);
        }
        Check.same("the first that is good, if any", run.next().read(1), due[0] == 0 ? 1 : due[1] == 0 ? 2 : 0);
        Check.same("all 0", run.next().poke(1, 1, 1, 0), 0);
        run.end();
    }

    private static void readsThatMend() {
        LongRun run = begin("read", 1);
        run.next().block(5);
        run.next().write(1, 4, (byte) 200);
        while (run.left() >= 17) {
            run.next().poke(1, 2, 4, run.left());
            Check.same("copy 1", run.next().read(1), 1);
            Check.same("copy 2 is mended", run.next().poke(1, 2, 4, 0), 200);
            run.next().poke(1, 1, 0, 1);
            Check.same("copy 2", run.next().read(1), 2);
            Check.same("copy 1 is mended", run.next().poke(1, 1, 0, 0), 0);
            run.next().poke(1, 1, 4, 4);
            run.next().poke(1, 2, 4, 8);
            Check.same("none", run.next().read(1), 0);
            Check.same("copy 1 is 0", run.next().poke(1, 1, 4, 0), 0);
            Check.same("copy 2 is 0", run.next().poke(1, 2, 4, 0), 0);
            Check.same("good", run.next().read(1), 1);
            Check.same("write", run.next().write(1, 4, (byte) 200), 1);
            Check.same("no such block", run.next().read(2), -1);
        }
        while (run.left() > 0) {
            Check.same("good", run.next().read(1), 1);
        }
        run.end();
    }

    private static void readsOfAll() {
        LongRun run = begin("read", 1);
        for (int b = 1; b <= 20; b++) {
            run.next().block(b);
            run.next().write(b, b - 1, (byte) (b + 100));
        }
        for (int round = 0; round < 7; round++) {
            for (int b = 1; b <= 20; b++) {
                int copy = (b + round) % 2 + 1;
                run.next().poke(b, copy, b * round / 7, 255);
                Check.same("block " + b, run.next().read(b), 3 - copy);
                Check.same("its last octet", run.next().poke(b, copy, b - 1, 0), b + 100);
            }
        }
        while (run.left() > 0) {
            Check.same("good", run.next().read(1 + run.left() % 20), 1);
        }
        run.end();
    }

    private static void cellsOfGrowingSections() {
        LongRun run = begin("cell", 820);
        Check.same("region", run.next().region(0, 820, 0), 1);
        for (int k = 1; k <= 40; k++) {
            Check.same("section " + k, run.next().section(k, 1, 0), k);
            Check.same("the one before is still the first", run.next().cell(0), k == 1 ? -1 : k - 1);
            Check.same("place", run.next().place(), 1);
            Check.same("the first", run.next().cell(0), k);
            Check.same("its last octet", run.next().cell(k - 1), k);
            Check.same("the next one", run.next().cell(k), k == 1 ? -1 : k - 1);
            Check.same("the last one", run.next().cell(startOf(1, k)), 1);
            if (k < 40) {
                Check.same("behind it", run.next().cell(startOf(0, k)), -1);
            }
        }
        while (run.left() > 80) {
            Check.same("place", run.next().place(), 1);
        }
        for (int s = 1; s <= 40; s++) {
            Check.same("the first octet of " + s, run.next().cell(startOf(s, 40)), s);
            Check.same("the last octet of " + s, run.next().cell(startOf(s, 40) + s - 1), s);
        }
        run.end();
    }

    private static void cellsWithoutPlacing() {
        LongRun run = begin("cell", 500);
        Check.same("region", run.next().region(100, 300, 0), 1);
        Check.same("section", run.next().section(300, 1, 0), 1);
        Check.same("place", run.next().place(), 1);
        Check.same("a section that fits nowhere", run.next().section(301, 1, 0), 2);
        while (run.left() >= 4) {
            int address = run.left() - 4;
            Check.same("no address for 2", run.next().place(), -2);
            boolean there = address >= 100 && address < 400;
            Check.same("cell(" + address + ")", run.next().cell(address % 500), there ? 1 : -1);
            cellThrows(run, 500 + address);
            Check.same("the last octet", run.next().cell(399), 1);
        }
        run.end();
    }

    /** Placements 20 to 55 are of 20 sections; those that come then drive all of them away. */
    private static void movedSinceTheKept() {
        LongRun run = begin("moved", 1000);
        Check.same("region", run.next().region(0, 820, 0), 1);
        for (int k = 1; k <= 20; k++) {
            run.next().section(k, 1, 0);
            Check.same("not there yet", run.next().moved(k), -1);
            Check.same("placement " + k, run.next().place(), 1);
            Check.same("all since the first", run.next().moved(1), k == 1 ? 0 : 1);
            Check.same("all since the one before", run.next().moved(k - 1), k - 1 == 0 ? -1 : k - 1);
        }
        for (int p = 21; p <= 55; p++) {
            Check.same("placement " + p, run.next().place(), 1);
            Check.same("kept or not", run.next().moved(p), p <= 50 ? 0 : -1);
        }
        for (int k = 21; k <= 40; k++) {
            run.next().section(k, 1, 0);
            Check.same("place", run.next().place(), 1);
            Check.same("all 20 since placement " + (k + 10), run.next().moved(k + 10), 20);
        }
        while (run.left() > 53) {
            Check.same("place", run.next().place(), 1);
        }
        for (int p = 0; p <= 52; p++) {
            Check.same("moved(" + p + ")", run.next().moved(p), p == 0 || p > 50 ? -1 : Math.min(p, 20));
        }
        run.end();
    }

    private static void movedBetweenFailures() {
        LongRun run = begin("moved", 1000);
        Check.same("region", run.next().region(0, 10, 0), 1);
        Check.same("section 1", run.next().section(4, 1, 0), 1);
        Check.same("placement 1", run.next().place(), 1);
        Check.same("section 2", run.next().section(11, 1, 0), 2);
        for (int again = 0; again < 150; again++) {
            Check.same("no address for 2", run.next().place(), -2);
            Check.same("1 is where it was", run.next().moved(1), 0);
            Check.same("no placement 2", run.next().moved(2), -1);
        }
        Check.same("section 3", run.next().section(5, 1, 0), 3);
        Check.same("region 2", run.next().region(10, 11, 0), 2);
        Check.same("placement 2", run.next().place(), 1);
        Check.same("1 is behind 3", run.next().moved(1), 1);
        while (run.left() > 2) {
            Check.same("place", run.next().place(), 1);
            Check.same("as in placement 2", run.next().moved(2), 0);
        }
        Check.same("place", run.next().place(), 1);
        Check.same("1 is behind 3", run.next().moved(1), 1);
        run.end();
    }
}
