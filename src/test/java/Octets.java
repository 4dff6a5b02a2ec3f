/** Looks at the octets of a block, without changing them: by pokes that turn no bit. */
final class Octets {
    private Octets() {
    }

    static void are(String what, MemoryMap map, int block, int copy, int... due) {
        for (int i = 0; i < due.length; i++) {
            Check.same(what + ", copy " + copy + ", octet " + i, map.poke(block, copy, i, 0), due[i]);
        }
        Check.same(what + ", no octet more", map.poke(block, copy, due.length, 0), -2);
    }

    static void areInBoth(String what, MemoryMap map, int block, int... due) {
        are(what, map, block, 1, due);
        are(what, map, block, 2, due);
    }
}
