/** The answers that README.md tells for its example. */
public final class ReadmeTest {
    public static void main(String[] args) {
        MemoryMap map = new MemoryMap(4096);
        Check.same("region", map.region(0x100, 512, 7), 1);
        Check.same("section 1", map.section(60, 16, 1), 1);
        Check.same("section 2", map.section(100, 1, 3), 2);
        Check.same("place", map.place(), 1);
        Check.same("at(2)", map.at(2), 256);
        Check.same("at(1)", map.at(1), 368);
        Check.same("cell", map.cell(370), 1);
        Check.same("moved", map.moved(1), 0);
        Check.same("call of 1", map.call(1, 2, 40), 1);
        Check.same("call of 2", map.call(2, 0, 8), 0);
        Check.same("depth", map.depth(1), 48);
        Check.same("block", map.block(4), 1);
        Check.same("write", map.write(1, 0, (byte) 65), 1);
        Check.same("poke", map.poke(1, 1, 0, 3), 66);
        Check.same("read", map.read(1), 2);
        Check.end();
    }
}
