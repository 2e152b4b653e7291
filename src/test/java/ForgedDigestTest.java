import java.lang.reflect.Field;

/**
 * FIT's rule on the first bits of the end's key. No map has a digest by which that rule could be told from the other
 * one: in a map each entry stands where its own key's bits lead. So this test, and no other, reaches into the object
 * and gives its root a digest that no map has.
 */
final class ForgedDigestTest {
    private static final int NO = -2;
    private static final int[] NOTHING = new int[8];

    private ForgedDigestTest() {
    }

    public static void main(String[] args) throws ReflectiveOperationException {
        Check.sentence("Terms: FIT, an entry whose key has as many first bits as there are siblings alike with the key's");
        for (int siblings = 0; siblings <= 16; siblings++) {
            forgedFor(siblings);
        }
        Check.end();
    }

    /** The proof has so many siblings of nothing and is judged by key 0, each bit of which is 0. */
    private static void forgedFor(int siblings) throws ReflectiveOperationException {
        for (int alike = 0; alike <= 16; alike++) {
            int endKey = alike == 16 ? 0 : 32768 >>> alike;
            ProofMap x = new ProofMap();
            x.put(0, 1);
            x.put(1, 2);
            x.prove(-1, 0);
            x.cut(siblings);
            if (siblings == 16) {
                int[] last = Model.one(1, 2);
                for (int i = 0; i < 8; i++) {
                    x.alter(15, i, last[i]);
                }
            }
            x.claim(endKey, 7);
            String what = siblings + " siblings, " + alike + " bits alike: verify(-1, 0)";
            Check.due(what + " before", x.verify(-1, 0), NO);
            forgeRootDigest(x, folded(siblings, Model.one(endKey, 7)));
            int fits = endKey == 0 ? 1 : 0;
            Check.due(what, x.verify(-1, 0), alike >= siblings ? fits : NO);
        }
    }

    private static int[] folded(int siblings, int[] end) {
        int[] digest = end;
        for (int k = 0; k < siblings; k++) {
            digest = Model.more(digest, NOTHING);
        }
        return digest;
    }

    private static void forgeRootDigest(ProofMap x, int[] digest) throws ReflectiveOperationException {
        Field now = ProofMap.class.getDeclaredField("now");
        now.setAccessible(true);
        Object root = now.get(x);
        Field field = root.getClass().getDeclaredField("digest");
        field.setAccessible(true);
        field.set(root, digest);
        Check.due("forged: word(-1, 0)", x.word(-1, 0), digest[0]);
    }
}
