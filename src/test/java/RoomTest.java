import java.lang.management.ManagementFactory;

/**
 * What the dearest runs make. The room holds some 600,000 objects and 7.3 million fields and elements;
 * an object takes 16 bytes at least and an element of a row of ints 4, so that a run that makes
 * less than 1,000,000 bytes stays below 63,000 objects and 250,000 elements, whichever it makes.
 */
final class RoomTest {
    private static final int CALLS = 512;
    private static final long MOST_BYTES = 1_000_000;

    private RoomTest() {
    }

    public static void main(String[] args) {
        // The first round loads the classes, which is not the run's own.
        for (int round = 0; round < 2; round++) {
            boolean counts = round == 1;
            told(counts, "puts in pairs, each with a digest", pairsWithDigests());
            told(counts, "one long way, changed again and again", longWay());
            told(counts, "proofs and judgements", proofs());
            told(counts, "commits and backs", versions());
        }
        Check.end();
    }

    private static void told(boolean counts, String run, long bytes) {
        if (counts) {
            System.out.println(run + ": " + bytes + " bytes");
            Check.holds(run + " makes less than " + MOST_BYTES + " bytes", bytes < MOST_BYTES);
        }
    }

    private static long pairsWithDigests() {
        long before = made();
        ProofMap x = new ProofMap();
        for (int i = 0; i < CALLS / 2; i++) {
            x.put((i / 2 * 40502 & 65534) + i % 2, i);
            x.word(-1, 0);
        }
        return made() - before;
    }

    private static long longWay() {
        long before = made();
        ProofMap x = new ProofMap();
        for (int bit = 0; bit < 16; bit++) {
            x.put(1 << bit, bit);
        }
        for (int i = 16; i < CALLS - 1; i++) {
            x.put(0, i);
        }
        x.word(-1, 0);
        return made() - before;
    }

    private static long proofs() {
        long before = made();
        ProofMap x = new ProofMap();
        for (int i = 0; i < 300; i++) {
            x.put((i / 2 * 40502 & 65534) + i % 2, i);
        }
        for (int i = 0; i < (CALLS - 300) / 2; i++) {
            x.prove(-1, i / 2 * 40502 & 65534);
            x.verify(-1, i);
        }
        return made() - before;
    }

    private static long versions() {
        long before = made();
        ProofMap x = new ProofMap();
        for (int i = 0; i < 128; i++) {
            x.put(i % 2, i);
            x.commit();
            x.back(i % 60);
            x.word(i % 60, 0);
        }
        return made() - before;
    }

    private static long made() {
        return ((com.sun.management.ThreadMXBean) ManagementFactory.getThreadMXBean()).getCurrentThreadAllocatedBytes();
    }
}
