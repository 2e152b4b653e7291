import java.nio.ByteBuffer;
import java.security.MessageDigest;
import java.security.NoSuchAlgorithmException;
import java.util.ArrayList;
import java.util.List;
import java.util.SortedMap;
import java.util.TreeMap;

/** The document's words, as near to them as can be: every digest is reckoned anew, by the Java library's SHA-256. */
final class Model {
    static final int BAD = -1;
    static final int NO = -2;
    static final int FULL = -3;

    private TreeMap<Integer, Integer> now = new TreeMap<>();
    private final List<TreeMap<Integer, Integer>> kept = new ArrayList<>();
    private final List<int[]> proof = new ArrayList<>();
    private boolean endIsEntry = false;
    private int endKey = 0;
    private int endValue = 0;

    int put(int key, int value) {
        if (noKey(key)) {
            return BAD;
        }
        if (now.containsKey(key)) {
            now.put(key, value);
            return 0;
        }
        if (now.size() == 300) {
            return FULL;
        }
        now.put(key, value);
        return 1;
    }

    int remove(int key) {
        if (noKey(key)) {
            return BAD;
        }
        return now.remove(key) == null ? 0 : 1;
    }

    long get(int version, int key) {
        if (noVersion(version) || !map(version).containsKey(key)) {
            return Long.MAX_VALUE;
        }
        return map(version).get(key);
    }

    int size(int version) {
        return noVersion(version) ? BAD : map(version).size();
    }

    int commit() {
        if (kept.size() == 60) {
            return FULL;
        }
        kept.add(new TreeMap<>(now));
        return kept.size() - 1;
    }

    int back(int version) {
        if (version == -1 || noVersion(version)) {
            return BAD;
        }
        now = new TreeMap<>(kept.get(version));
        return now.size();
    }

    int word(int version, int i) {
        return noVersion(version) || i < 0 || i > 7 ? 0 : node(map(version), "")[i];
    }

    int prove(int version, int key) {
        if (noVersion(version) || noKey(key)) {
            return BAD;
        }
        TreeMap<Integer, Integer> map = map(version);
        proof.clear();
        int b = 0;
        while (entries(map, bits(key).substring(0, b)).size() > 1) {
            String passed = bits(key).substring(0, b) + (bits(key).charAt(b) == '0' ? '1' : '0');
            proof.add(node(map, passed));
            b++;
        }
        SortedMap<Integer, Integer> last = entries(map, bits(key).substring(0, b));
        endIsEntry = !last.isEmpty();
        endKey = endIsEntry ? last.firstKey() : 0;
        endValue = endIsEntry ? last.get(endKey) : 0;
        return proof.size();
    }

    int siblings() {
        return proof.size();
    }

    int sibling(int k, int i) {
        return k < 0 || k >= proof.size() || i < 0 || i > 7 ? 0 : proof.get(k)[i];
    }

    int end(int what) {
        if (what == 0) {
            return endIsEntry ? 1 : 0;
        }
        return what == 1 ? endKey : what == 2 ? endValue : BAD;
    }

    int alter(int k, int i, int mask) {
        if (k < 0 || k >= proof.size() || i < 0 || i > 7) {
            return BAD;
        }
        proof.get(k)[i] ^= mask;
        return 1;
    }

    int claim(int key, int value) {
        if (key != -1 && noKey(key)) {
            return BAD;
        }
        endIsEntry = key != -1;
        endKey = endIsEntry ? key : 0;
        endValue = endIsEntry ? value : 0;
        return 1;
    }

    int cut(int many) {
        if (many < 0 || many > proof.size()) {
            return BAD;
        }
        while (proof.size() > many) {
            proof.remove(proof.size() - 1);
        }
        return 1;
    }

    int verify(int version, int key) {
        if (noVersion(version) || noKey(key)) {
            return BAD;
        }
        if (endIsEntry && !bits(endKey).startsWith(bits(key).substring(0, proof.size()))) {
            return NO;
        }
        int[] digest = endIsEntry ? one(endKey, endValue) : new int[8];
        for (int k = proof.size() - 1; k >= 0; k--) {
            digest = bits(key).charAt(k) == '0' ? more(digest, proof.get(k)) : more(proof.get(k), digest);
        }
        if (!java.util.Arrays.equals(digest, node(map(version), ""))) {
            return NO;
        }
        return endIsEntry && endKey == key ? 1 : 0;
    }

    int alike(int key, int other) {
        if (noKey(key) || noKey(other)) {
            return BAD;
        }
        int many = 16;
        while (!bits(key).substring(0, many).equals(bits(other).substring(0, many))) {
            many--;
        }
        return many;
    }

    int versions() {
        return kept.size();
    }

    private boolean noKey(int key) {
        return key < 0 || key > 65535;
    }

    private boolean noVersion(int version) {
        return version < -1 || version >= kept.size();
    }

    private TreeMap<Integer, Integer> map(int version) {
        return version == -1 ? now : kept.get(version);
    }

    private static String bits(int key) {
        return Integer.toBinaryString(65536 + key).substring(1);
    }

    private static SortedMap<Integer, Integer> entries(TreeMap<Integer, Integer> map, String first) {
        int width = 1 << (16 - first.length());
        int from = first.isEmpty() ? 0 : Integer.parseInt(first, 2) * width;
        return map.subMap(from, from + width);
    }

    private static int[] node(TreeMap<Integer, Integer> map, String first) {
        SortedMap<Integer, Integer> in = entries(map, first);
        if (in.isEmpty()) {
            return new int[8];
        }
        // A view's size is counted entry by entry; its two ends tell as much.
        if (in.firstKey().equals(in.lastKey())) {
            return one(in.firstKey(), in.get(in.firstKey()));
        }
        return more(node(map, first + "0"), node(map, first + "1"));
    }

    static int[] one(int key, int value) {
        return sha256(ByteBuffer.allocate(7).put((byte) 0).putShort((short) key).putInt(value));
    }

    static int[] more(int[] zero, int[] one) {
        ByteBuffer bytes = ByteBuffer.allocate(65).put((byte) 1);
        for (int word : zero) {
            bytes.putInt(word);
        }
        for (int word : one) {
            bytes.putInt(word);
        }
        return sha256(bytes);
    }

    private static int[] sha256(ByteBuffer bytes) {
        try {
            int[] words = new int[8];
            ByteBuffer.wrap(MessageDigest.getInstance("SHA-256").digest(bytes.array())).asIntBuffer().get(words);
            return words;
        } catch (NoSuchAlgorithmException e) {
            throw new IllegalStateException(e);
        }
    }
}
