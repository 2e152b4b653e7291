/**
 * A map of int values by keys of 16 bits, whose digests tell what is in it,
 * with versions that stay and proofs that a digest alone can judge.
 */
public final class ProofMap {
    public static final int BAD = -1;
    public static final int NO = -2;
    public static final int FULL = -3;

    private static final long NO_VALUE = 9223372036854775807L;
    private static final int NOW = -1;
    private static final int NO_ENTRY = -1;
    private static final int BITS = 16;
    private static final int KEYS = 65536;
    private static final int WORDS = 8;
    private static final int MOST_ENTRIES = 300;
    private static final int MOST_VERSIONS = 60;

    private final Node[] kept;
    private int keptCount;
    private Node now;
    private final Proof proof;
    private final Hasher hasher;
    private final int[] folded;

    public ProofMap() {
        kept = new Node[MOST_VERSIONS];
        keptCount = 0;
        now = null;
        proof = new Proof();
        hasher = new Hasher();
        folded = new int[WORDS];
    }

    public int put(int key, int value) {
        if (!isKey(key)) {
            return BAD;
        }
        boolean there = isEntry(endOf(now, key), key);
        if (!there && countOf(now) >= MOST_ENTRIES) {
            return FULL;
        }
        now = replaced(now, 0, key, new Node(key, value));
        return there ? 0 : 1;
    }

    public int remove(int key) {
        if (!isKey(key)) {
            return BAD;
        }
        if (!isEntry(endOf(now, key), key)) {
            return 0;
        }
        now = replaced(now, 0, key, null);
        return 1;
    }

    public long get(int version, int key) {
        if (!isVersion(version) || !isKey(key)) {
            return NO_VALUE;
        }
        Node end = endOf(rootOf(version), key);
        return end != null && isEntry(end, key) ? end.value : NO_VALUE;
    }

    public int size(int version) {
        return isVersion(version) ? countOf(rootOf(version)) : BAD;
    }

    public int commit() {
        if (keptCount < 0 || keptCount >= MOST_VERSIONS) {
            return FULL;
        }
        int version = keptCount;
        kept[version] = now;
        keptCount = version + 1;
        return version;
    }

    public int back(int version) {
        if (version == NOW || !isVersion(version)) {
            return BAD;
        }
        now = rootOf(version);
        return countOf(now);
    }

    public int word(int version, int i) {
        if (!isVersion(version) || !isWord(i)) {
            return 0;
        }
        return digestOf(rootOf(version), 0, hasher)[i];
    }

    public int prove(int version, int key) {
        if (!isVersion(version) || !isKey(key)) {
            return BAD;
        }
        Node node = rootOf(version);
        int depth = 0;
        while (depth < BITS && countOf(node) > 1) {
            int bit = bitAt(key, depth);
            // Copied, for alter must not reach the digests that the maps share.
            copyWords(digestOf(half(node, depth, 1 - bit), depth + 1, hasher), proof.beside[depth]);
            node = half(node, depth, bit);
            depth++;
        }
        proof.length = depth;
        if (node == null) {
            proof.endWithNothing();
        } else {
            proof.endWithEntry(node.key, node.value);
        }
        return depth;
    }

    public int siblings() {
        return proof.length;
    }

    public int sibling(int k, int i) {
        return isSibling(k) && isWord(i) ? proof.beside[k][i] : 0;
    }

    public int end(int what) {
        switch (what) {
            case 0:
                return proof.hasEntry ? 1 : 0;
            case 1:
                return proof.key;
            case 2:
                return proof.value;
            default:
                return BAD;
        }
    }

    public int alter(int k, int i, int mask) {
        if (!isSibling(k) || !isWord(i)) {
            return BAD;
        }
        proof.beside[k][i] ^= mask;
        return 1;
    }

    public int claim(int key, int value) {
        if (key == NO_ENTRY) {
            proof.endWithNothing();
            return 1;
        }
        if (!isKey(key)) {
            return BAD;
        }
        proof.endWithEntry(key, value);
        return 1;
    }

    public int cut(int many) {
        if (many < 0 || many > proof.length) {
            return BAD;
        }
        proof.length = many;
        return 1;
    }

    public int verify(int version, int key) {
        if (!isVersion(version) || !isKey(key)) {
            return BAD;
        }
        if (proof.hasEntry && sameFirstBits(proof.key, key) < proof.length) {
            return NO;
        }
        foldProof(key);
        if (!sameWords(folded, digestOf(rootOf(version), 0, hasher))) {
            return NO;
        }
        return proof.hasEntry && proof.key == key ? 1 : 0;
    }

    public int alike(int key, int other) {
        return isKey(key) && isKey(other) ? sameFirstBits(key, other) : BAD;
    }

    public int versions() {
        return keptCount;
    }

    private static boolean isKey(int key) {
        return key >= 0 && key < KEYS;
    }

    private static boolean isWord(int i) {
        return i >= 0 && i < WORDS;
    }

    private boolean isVersion(int version) {
        return version >= NOW && version < keptCount;
    }

    private boolean isSibling(int k) {
        return k >= 0 && k < proof.length && k < BITS;
    }

    private Node rootOf(int version) {
        return version >= 0 && version < MOST_VERSIONS ? kept[version] : now;
    }

    /** The key's bit behind its first ones, as many as depth says. */
    private static int bitAt(int key, int depth) {
        return (key >>> (BITS - 1 - depth)) & 1;
    }

    private static int sameFirstBits(int key, int other) {
        int same = 0;
        while (same < BITS && bitAt(key, same) == bitAt(other, same)) {
            same++;
        }
        return same;
    }

    private static int countOf(Node node) {
        return node == null ? 0 : node.count;
    }

    private static boolean isEntry(Node node, int key) {
        return node != null && node.count == 1 && node.key == key;
    }

    /**
     * The node with one bit more. A node with one entry is the same object at
     * every depth, so that its key tells in which half it lies.
     */
    private static Node half(Node node, int depth, int bit) {
        if (node == null) {
            return null;
        }
        if (node.count == 1) {
            return bitAt(node.key, depth) == bit ? node : null;
        }
        return bit == 0 ? node.zero : node.one;
    }

    /** Null, or a node with one entry, whose key may be another one. */
    private static Node endOf(Node root, int key) {
        Node node = root;
        for (int depth = 0; depth < BITS && countOf(node) > 1; depth++) {
            node = half(node, depth, bitAt(key, depth));
        }
        return node;
    }

    /**
     * The node with this entry at the key, or with none when entry is null.
     * The nodes on the way are made anew: versions may hold the old ones.
     */
    private static Node replaced(Node node, int depth, int key, Node entry) {
        if (node == null || depth >= BITS || isEntry(node, key)) {
            return entry;
        }
        int bit = bitAt(key, depth);
        Node changed = replaced(half(node, depth, bit), depth + 1, key, entry);
        Node other = half(node, depth, 1 - bit);
        return bit == 0 ? joined(changed, other) : joined(other, changed);
    }

    private static Node joined(Node zero, Node one) {
        if (countOf(zero) + countOf(one) > 1) {
            return new Node(zero, one);
        }
        return zero == null ? one : zero;
    }

    /** Reckoned when it is first asked for: most nodes are replaced before that. */
    private static int[] digestOf(Node node, int depth, Hasher hasher) {
        if (node == null || depth > BITS) {
            return hasher.nothing;
        }
        if (node.digest == null) {
            int[] digest = new int[WORDS];
            if (node.count == 1) {
                hasher.hashEntry(node.key, node.value, digest);
            } else {
                int[] zero = digestOf(node.zero, depth + 1, hasher);
                int[] one = digestOf(node.one, depth + 1, hasher);
                hasher.hashPair(zero, one, digest);
            }
            node.digest = digest;
        }
        return node.digest;
    }

    /** Leaves in folded the digest that the proof at hand comes to with the key. */
    private void foldProof(int key) {
        if (proof.hasEntry) {
            hasher.hashEntry(proof.key, proof.value, folded);
        } else {
            copyWords(hasher.nothing, folded);
        }
        for (int k = Math.min(proof.length, BITS) - 1; k >= 0; k--) {
            if (bitAt(key, k) == 0) {
                hasher.hashPair(folded, proof.beside[k], folded);
            } else {
                hasher.hashPair(proof.beside[k], folded, folded);
            }
        }
    }

    private static void copyWords(int[] from, int[] to) {
        for (int i = 0; i < WORDS; i++) {
            to[i] = from[i];
        }
    }

    private static boolean sameWords(int[] some, int[] others) {
        for (int i = 0; i < WORDS; i++) {
            if (some[i] != others[i]) {
                return false;
            }
        }
        return true;
    }

    /**
     * One entry or more; null stands for none. Never changed but for its
     * digest coming to be known, so that versions can share it.
     */
    private static final class Node {
        final int count;
        final int key;
        final int value;
        final Node zero;
        final Node one;
        int[] digest;

        Node(int key, int value) {
            this.count = 1;
            this.key = key;
            this.value = value;
            this.zero = null;
            this.one = null;
            this.digest = null;
        }

        Node(Node zero, Node one) {
            this.count = countOf(zero) + countOf(one);
            this.key = 0;
            this.value = 0;
            this.zero = zero;
            this.one = one;
            this.digest = null;
        }
    }

    /** The proof at hand: its own copy, which the caller may spoil. */
    private static final class Proof {
        final int[][] beside;
        int length;
        boolean hasEntry;
        int key;
        int value;

        Proof() {
            beside = new int[BITS][WORDS];
            length = 0;
            hasEntry = false;
            key = 0;
            value = 0;
        }

        void endWithNothing() {
            hasEntry = false;
            key = 0;
            value = 0;
        }

        void endWithEntry(int entryKey, int entryValue) {
            hasEntry = true;
            key = entryKey;
            value = entryValue;
        }
    }

    /** SHA-256 of the two messages that nodes have; its rows serve every call. */
    private static final class Hasher {
        private static final int BLOCK = 16;
        private static final int ROUNDS = 64;
        private static final int ENTRY_MESSAGE_BITS = 56;
        private static final int PAIR_MESSAGE_BITS = 520;

        private static final int[] START = {
            0x6a09e667, 0xbb67ae85, 0x3c6ef372, 0xa54ff53a,
            0x510e527f, 0x9b05688c, 0x1f83d9ab, 0x5be0cd19
        };

        private static final int[] ROUND_WORDS = {
            0x428a2f98, 0x71374491, 0xb5c0fbcf, 0xe9b5dba5, 0x3956c25b, 0x59f111f1, 0x923f82a4, 0xab1c5ed5,
            0xd807aa98, 0x12835b01, 0x243185be, 0x550c7dc3, 0x72be5d74, 0x80deb1fe, 0x9bdc06a7, 0xc19bf174,
            0xe49b69c1, 0xefbe4786, 0x0fc19dc6, 0x240ca1cc, 0x2de92c6f, 0x4a7484aa, 0x5cb0a9dc, 0x76f988da,
            0x983e5152, 0xa831c66d, 0xb00327c8, 0xbf597fc7, 0xc6e00bf3, 0xd5a79147, 0x06ca6351, 0x14292967,
            0x27b70a85, 0x2e1b2138, 0x4d2c6dfc, 0x53380d13, 0x650a7354, 0x766a0abb, 0x81c2c92e, 0x92722c85,
            0xa2bfe8a1, 0xa81a664b, 0xc24b8b70, 0xc76c51a3, 0xd192e819, 0xd6990624, 0xf40e3585, 0x106aa070,
            0x19a4c116, 0x1e376c08, 0x2748774c, 0x34b0bcb5, 0x391c0cb3, 0x4ed8aa4a, 0x5b9cca4f, 0x682e6ff3,
            0x748f82ee, 0x78a5636f, 0x84c87814, 0x8cc70208, 0x90befffa, 0xa4506ceb, 0xbef9a3f7, 0xc67178f2
        };

        /** The digest of a node without entries; never written to. */
        final int[] nothing;
        private final int[] message;
        private final int[] schedule;
        private final int[] state;

        Hasher() {
            nothing = new int[WORDS];
            message = new int[2 * BLOCK];
            schedule = new int[ROUNDS];
            state = new int[WORDS];
        }

        /** Seven bytes: 0, the key's two, the value's four; then the closing bit. */
        void hashEntry(int key, int value, int[] into) {
            clearMessage();
            message[0] = (key << 8) | (value >>> 24);
            message[1] = (value << 8) | 0x80;
            message[BLOCK - 1] = ENTRY_MESSAGE_BITS;
            start();
            compress(0);
            copyWords(state, into);
        }

        /**
         * The byte 1 shifts all words behind it by a byte; then the closing bit.
         * The message is whole before into is written, so into may be zero or one.
         */
        void hashPair(int[] zero, int[] one, int[] into) {
            clearMessage();
            int before = 1;
            for (int i = 0; i < WORDS; i++) {
                message[i] = (before << 24) | (zero[i] >>> 8);
                before = zero[i];
            }
            for (int i = 0; i < WORDS; i++) {
                message[WORDS + i] = (before << 24) | (one[i] >>> 8);
                before = one[i];
            }
            message[BLOCK] = (before << 24) | 0x800000;
            message[2 * BLOCK - 1] = PAIR_MESSAGE_BITS;
            start();
            compress(0);
            compress(BLOCK);
            copyWords(state, into);
        }

        private void clearMessage() {
            for (int i = 0; i < 2 * BLOCK; i++) {
                message[i] = 0;
            }
        }

        private void start() {
            copyWords(START, state);
        }

        private void compress(int from) {
            spread(from);
            int a = state[0];
            int b = state[1];
            int c = state[2];
            int d = state[3];
            int e = state[4];
            int f = state[5];
            int g = state[6];
            int h = state[7];
            for (int t = 0; t < ROUNDS; t++) {
                int sumOfE = turned(e, 6) ^ turned(e, 11) ^ turned(e, 25);
                int choice = (e & f) ^ (~e & g);
                int first = h + sumOfE + choice + ROUND_WORDS[t] + schedule[t];
                int sumOfA = turned(a, 2) ^ turned(a, 13) ^ turned(a, 22);
                int majority = (a & b) ^ (a & c) ^ (b & c);
                h = g;
                g = f;
                f = e;
                e = d + first;
                d = c;
                c = b;
                b = a;
                a = first + sumOfA + majority;
            }
            state[0] += a;
            state[1] += b;
            state[2] += c;
            state[3] += d;
            state[4] += e;
            state[5] += f;
            state[6] += g;
            state[7] += h;
        }

        private void spread(int from) {
            for (int t = 0; t < BLOCK; t++) {
                schedule[t] = message[from + t];
            }
            for (int t = BLOCK; t < ROUNDS; t++) {
                int early = schedule[t - 15];
                int late = schedule[t - 2];
                int sumOfEarly = turned(early, 7) ^ turned(early, 18) ^ (early >>> 3);
                int sumOfLate = turned(late, 17) ^ turned(late, 19) ^ (late >>> 10);
                schedule[t] = sumOfLate + schedule[t - 7] + sumOfEarly + schedule[t - 16];
            }
        }

        private static int turned(int word, int by) {
            return (word >>> by) | (word << (32 - by));
        }
    }
}
