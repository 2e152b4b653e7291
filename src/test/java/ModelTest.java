import java.util.Random;

/** Long runs of calls, each answer held against the Model's. The seeds are written here, so every run is the same. */
final class ModelTest {
    private static final int CALLS = 512;
    private static final int[] STRANGE = {
        Integer.MIN_VALUE, Integer.MIN_VALUE + 1, -65536, -61, -17, -9, -4, -3, -2, -1, 0, 1, 2, 3, 7, 8, 9, 15, 16, 17,
        59, 60, 61, 299, 300, 301, 512, 32767, 32768, 65534, 65535, 65536, 65537, Integer.MAX_VALUE - 1, Integer.MAX_VALUE
    };

    private final String name;
    private final Random random;
    private final int[] keys;
    private final ProofMap map = new ProofMap();
    private final Model model = new Model();
    private int calls = 0;
    private int lastProved = 0;

    private ModelTest(String name, long seed, int[] keys) {
        this.name = name;
        this.random = new Random(seed);
        this.keys = keys;
    }

    public static void main(String[] args) {
        for (int seed = 1; seed <= 12; seed++) {
            new ModelTest("few keys, seed " + seed, seed, row(12, seed)).mixed();
            new ModelTest("neighbours, seed " + seed, seed, row(40, 1)).mixed();
            new ModelTest("far keys, seed " + seed, seed, row(400, 7919 * seed)).mixed();
            new ModelTest("pairs, seed " + seed, seed, pairs(200)).mixed();
        }
        for (int seed = 1; seed <= 4; seed++) {
            new ModelTest("full of far keys, seed " + seed, seed, row(310, 40503)).full();
            new ModelTest("full of neighbours, seed " + seed, seed, row(310, 1)).full();
            new ModelTest("full of pairs, seed " + seed, seed, pairs(155)).full();
            new ModelTest("many versions, seed " + seed, seed, row(30, 2113)).manyVersions();
            new ModelTest("strange arguments, seed " + seed, seed, row(30, 2113)).strange();
        }
        Check.end();
    }

    private static int[] row(int many, int step) {
        int[] keys = new int[many];
        for (int i = 0; i < many; i++) {
            keys[i] = i * step & 65535;
        }
        return keys;
    }

    /** Keys alike at 15 bits: the longest ways down. */
    private static int[] pairs(int many) {
        int[] keys = new int[2 * many];
        for (int i = 0; i < many; i++) {
            keys[2 * i] = i * 40502 & 65534;
            keys[2 * i + 1] = keys[2 * i] + 1;
        }
        return keys;
    }

    private void mixed() {
        while (calls < CALLS) {
            any();
        }
    }

    private void full() {
        for (int key : keys) {
            put(key, random.nextInt());
        }
        while (calls < CALLS) {
            any();
        }
    }

    private void manyVersions() {
        for (int i = 0; i < 62; i++) {
            put(key(), random.nextInt());
            commit();
        }
        while (calls < CALLS) {
            any();
        }
    }

    private void strange() {
        while (calls < CALLS) {
            if (random.nextInt(3) == 0) {
                any();
            } else {
                call(random.nextInt(17), odd(), odd(), odd());
            }
        }
    }

    private void any() {
        int which = random.nextInt(100);
        if (which < 30) {
            put(key(), random.nextBoolean() ? random.nextInt() : random.nextInt(3) - 1);
        } else if (which < 40) {
            call(1, key(), 0, 0);
        } else if (which < 45) {
            call(2, version(), key(), 0);
        } else if (which < 50) {
            commit();
        } else if (which < 53) {
            call(5, version(), 0, 0);
        } else if (which < 60) {
            call(6, version(), random.nextInt(10) - 1, 0);
        } else if (which < 80) {
            proof();
        } else {
            int k = random.nextInt(19) - 1;
            int[] first = {version(), key(), k, lastProved};
            call(random.nextInt(17), first[random.nextInt(4)], random.nextBoolean() ? key() : k, random.nextInt());
        }
    }

    /** A proof, mostly spoilt in one way and judged, then mostly mended and judged again. */
    private void proof() {
        int version = version();
        lastProved = key();
        call(7, version, lastProved, 0);
        call(14, version, lastProved, 0);
        int k = random.nextInt(17);
        int mask = 1 << random.nextInt(32);
        switch (random.nextInt(6)) {
            case 0:
                call(11, k, k & 7, mask);
                call(14, version, lastProved, 0);
                call(11, k, k & 7, mask);
                break;
            case 1:
                call(12, random.nextInt(4) == 0 ? -1 : key(), random.nextInt(3), 0);
                break;
            case 2:
                call(12, lastProved, (int) model.get(version, lastProved), 0);
                break;
            case 3:
                call(13, k, 0, 0);
                break;
            case 4:
                lastProved ^= mask & 65535;
                break;
            default:
                version = version();
                break;
        }
        call(14, version, lastProved, 0);
        call(9, k, random.nextInt(8), 0);
        call(10, random.nextInt(4), 0, 0);
    }

    private int key() {
        return random.nextInt(30) == 0 ? STRANGE[random.nextInt(STRANGE.length)] : keys[random.nextInt(keys.length)];
    }

    private int version() {
        return random.nextInt(3) == 0 ? -1 : random.nextInt(model.versions() + 3) - 2;
    }

    private int odd() {
        return random.nextInt(10) == 0 ? random.nextInt() : STRANGE[random.nextInt(STRANGE.length)];
    }

    private void put(int key, int value) {
        call(0, key, value, 0);
    }

    private void commit() {
        call(4, 0, 0, 0);
    }

    private void call(int which, int a, int b, int c) {
        // What later calls answer is free.
        if (calls == CALLS) {
            return;
        }
        calls++;
        String told = name + ", call " + calls + ": method " + which + " (" + a + ", " + b + ", " + c + ")";
        Check.due(told, answer(which, a, b, c), due(which, a, b, c));
    }

    private long answer(int which, int a, int b, int c) {
        switch (which) {
            case 0: return map.put(a, b);
            case 1: return map.remove(a);
            case 2: return map.get(a, b);
            case 3: return map.size(a);
            case 4: return map.commit();
            case 5: return map.back(a);
            case 6: return map.word(a, b);
            case 7: return map.prove(a, b);
            case 8: return map.siblings();
            case 9: return map.sibling(a, b);
            case 10: return map.end(a);
            case 11: return map.alter(a, b, c);
            case 12: return map.claim(a, b);
            case 13: return map.cut(a);
            case 14: return map.verify(a, b);
            case 15: return map.alike(a, b);
            default: return map.versions();
        }
    }

    private long due(int which, int a, int b, int c) {
        switch (which) {
            case 0: return model.put(a, b);
            case 1: return model.remove(a);
            case 2: return model.get(a, b);
            case 3: return model.size(a);
            case 4: return model.commit();
            case 5: return model.back(a);
            case 6: return model.word(a, b);
            case 7: return model.prove(a, b);
            case 8: return model.siblings();
            case 9: return model.sibling(a, b);
            case 10: return model.end(a);
            case 11: return model.alter(a, b, c);
            case 12: return model.claim(a, b);
            case 13: return model.cut(a);
            case 14: return model.verify(a, b);
            case 15: return model.alike(a, b);
            default: return model.versions();
        }
    }
}
