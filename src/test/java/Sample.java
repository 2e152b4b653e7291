/** Objects in states that stand at a boundary; each call makes a new one, so that twins can be held side by side. */
final class Sample {
    /** Too small, too large, and those that would be keys if their higher bits were lost. */
    static final int[] TOO_SMALL_KEYS = {-1, -2, -65535, -65536, Integer.MIN_VALUE};
    static final int[] TOO_LARGE_KEYS = {65536, 65537, 131071, 131072, Integer.MAX_VALUE};
    static final int[] TOO_SMALL_WORDS = {-1, -8, Integer.MIN_VALUE};
    static final int[] TOO_LARGE_WORDS = {8, 9, 16, Integer.MAX_VALUE};

    private Sample() {
    }

    /** So many calls: keys 0, 211, 422 .. with the values 0, 1, 2 .. */
    static ProofMap ofEntries(int many) {
        ProofMap x = new ProofMap();
        for (int i = 0; i < many; i++) {
            x.put(i * 211, i);
        }
        return x;
    }

    /** Twice so many calls: version v has the one entry 7 with the value v. */
    static ProofMap ofVersions(int many) {
        ProofMap x = new ProofMap();
        for (int v = 0; v < many; v++) {
            x.put(7, v);
            x.commit();
        }
        return x;
    }

    /**
     * Five calls: the map has 0, 1 and 32768 with 10, 11 and 12; version 0 is the same but for 32768. The proof at
     * hand is the map's of key 0, with 16 siblings: the first has 32768, the last has 1, the others nothing.
     */
    static ProofMap ofLongProof() {
        ProofMap x = new ProofMap();
        x.put(0, 10);
        x.put(1, 11);
        x.commit();
        x.put(32768, 12);
        x.prove(-1, 0);
        return x;
    }

    /** The digest of a node with these bits and one entry or more, seen from its parents up to the root. */
    static int[] alone(String bits, int[] digest) {
        int[] above = digest;
        for (int b = bits.length() - 1; b >= 0; b--) {
            above = bits.charAt(b) == '0' ? Model.more(above, new int[8]) : Model.more(new int[8], above);
        }
        return above;
    }
}
