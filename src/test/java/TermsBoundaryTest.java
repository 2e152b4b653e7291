/** The boundaries that the document's sections "What it is" and "Terms" name, a test for each sentence. */
final class TermsBoundaryTest {
    private static final int BAD = -1;
    private static final int NO = -2;
    private static final int FULL = -3;
    private static final long NONE = 9223372036854775807L;
    private static final int[] NOTHING = new int[8];

    private TermsBoundaryTest() {
    }

    public static void main(String[] args) {
        lastCallAnswers();
        laterCallsEnd();
        firstAndLastKey();
        highestBitFirst();
        firstAndLastValue();
        mostEntries();
        mostEntriesOfEachMap();
        digestOfNone();
        digestOfNoneInsideMore();
        digestOfOne();
        digestOfOneAtAnyDepth();
        digestOfTwo();
        digestOfMost();
        digestOfOneAgain();
        nodeOfNoBits();
        nodeOfSixteenBits();
        versionsFromZero();
        mostVersions();
        versionNow();
        proofWithoutSiblings();
        proofOfEachLength();
        firstSibling();
        endNothing();
        endEntry();
        endOfAnotherKey();
        fitOfNothing();
        fitOfFirstBits();
        fitOfDigest();
        fitFromTheLastSibling();
        saysThere();
        saysNotThere();
        Check.end();
    }

    private static void lastCallAnswers() {
        Check.sentence("What it is: An object is used for at most 512 calls");
        Check.due("512th: put, full", used511().put(1, 1), FULL);
        Check.due("512th: put, there", used511().put(0, 1), 0);
        Check.due("512th: remove", used511().remove(0), 1);
        Check.due("512th: get", used511().get(59, 211 * 299), 299);
        Check.due("512th: size", used511().size(59), 300);
        Check.due("512th: commit", used511().commit(), FULL);
        Check.due("512th: back", used511().back(59), 300);
        Model same = new Model();
        for (int i = 0; i < 300; i++) {
            same.put(i * 211, i);
        }
        Check.due("512th: word", used511().word(59, 7), same.word(-1, 7));
        int many = same.prove(-1, 0);
        Check.due("512th: prove", used511().prove(59, 0), many);
        Check.due("512th: siblings", used511().siblings(), many);
        Check.due("512th: sibling", used511().sibling(many - 1, 7), same.sibling(many - 1, 7));
        Check.due("512th: end", used511().end(0), 1);
        Check.due("512th: alter", used511().alter(many - 1, 7, 1), 1);
        Check.due("512th: claim", used511().claim(65535, 1), 1);
        Check.due("512th: cut", used511().cut(many), 1);
        Check.due("512th: verify", used511().verify(59, 0), 1);
        Check.due("512th: alike", used511().alike(0, 1), 15);
        Check.due("512th: versions", used511().versions(), 60);
    }

    /** 300 entries, 60 versions, the proof of key 0, and calls that change nothing. */
    private static ProofMap used511() {
        ProofMap x = Sample.ofEntries(300);
        for (int i = 0; i < 60; i++) {
            x.commit();
        }
        x.prove(-1, 0);
        for (int i = 0; i < 150; i++) {
            x.versions();
        }
        return x;
    }

    private static void laterCallsEnd() {
        Check.sentence("What it is: what later calls answer is free (but they end, and throw nothing)");
        ProofMap x = used511();
        for (int i = 0; i < 2000; i++) {
            x.put(i * 31 & 65535, i);
            x.remove(i * 17 & 65535);
            x.get(i % 62 - 1, i);
            x.size(i % 62 - 1);
            x.commit();
            x.back(i % 60);
            x.word(i % 62 - 1, i & 7);
            x.prove(-1, i);
            x.siblings();
            x.sibling(i & 15, i & 7);
            x.end(i & 3);
            x.alter(i & 15, i & 7, i);
            x.claim(i - 1, i);
            x.verify(-1, i);
            x.cut(i & 15);
            x.alike(i, i + 1);
            x.versions();
        }
        Check.holds("34,000 calls more have ended", true);
    }

    private static void firstAndLastKey() {
        Check.sentence("Terms: KEYS are 0 .. 65535");
        int[] ends = {0, 65535};
        for (int key : ends) {
            ProofMap x = new ProofMap();
            Check.due("put(" + key + ", 5)", x.put(key, 5), 1);
            Check.due("get(-1, " + key + ")", x.get(-1, key), 5);
            Check.due("prove(-1, " + key + ")", x.prove(-1, key), 0);
            Check.due("end(1)", x.end(1), key);
            Check.due("verify(-1, " + key + ")", x.verify(-1, key), 1);
            Check.due("claim(" + key + ", 5)", x.claim(key, 5), 1);
            Check.due("alike(" + key + ", " + key + ")", x.alike(key, key), 16);
            Check.due("remove(" + key + ")", x.remove(key), 1);
        }
    }

    private static void highestBitFirst() {
        Check.sentence("Terms: of 16 BITS, the highest first");
        ProofMap x = new ProofMap();
        x.put(0, 1);
        x.put(32768, 2);
        Check.due("the first bit: prove(-1, 0)", x.prove(-1, 0), 1);
        Check.siblingWords("the first bit", x, 0, Model.one(32768, 2));
        x.remove(32768);
        x.put(1, 3);
        Check.due("the 16th bit: prove(-1, 0)", x.prove(-1, 0), 16);
        Check.siblingWords("the 16th bit", x, 15, Model.one(1, 3));
    }

    private static void firstAndLastValue() {
        Check.sentence("Terms: VALUES are ints");
        int[] values = {Integer.MIN_VALUE, -1, 0, 1, Integer.MAX_VALUE};
        for (int value : values) {
            ProofMap x = new ProofMap();
            x.put(9, value);
            Check.due("get of " + value, x.get(-1, 9), value);
            Check.digest("value " + value, x, -1, Model.one(9, value));
            x.prove(-1, 9);
            Check.proofEnd("value " + value, x, 1, 9, value);
            Check.due("verify of " + value, x.verify(-1, 9), 1);
        }
    }

    private static void mostEntries() {
        Check.sentence("Terms: A map has at most 300 entries");
        ProofMap x = Sample.ofEntries(299);
        Check.due("the 300th", x.put(65535, 1), 1);
        Check.due("the 301st", x.put(65534, 1), FULL);
        Check.due("size(-1)", x.size(-1), 300);
        Check.due("the first one", x.get(-1, 0), 0);
        Check.due("the 300th's value", x.get(-1, 65535), 1);
    }

    private static void mostEntriesOfEachMap() {
        Check.sentence("Terms: A map has at most 300 entries (each version, and not all of them together)");
        ProofMap x = new ProofMap();
        x.commit();
        for (int i = 0; i < 300; i++) {
            x.put(i, i);
        }
        x.commit();
        x.back(0);
        for (int i = 0; i < 200; i++) {
            Check.due("put no. " + (301 + i) + " of the object", x.put(60000 - i, i), 1);
        }
        Check.due("size(1)", x.size(1), 300);
        Check.due("size(-1)", x.size(-1), 200);
    }

    private static void digestOfNone() {
        Check.sentence("Terms: its digest is: when there are none, eight words 0");
        ProofMap x = new ProofMap();
        Check.digest("a new map", x, -1, NOTHING);
        x.put(3, 3);
        x.put(4, 4);
        x.remove(3);
        x.remove(4);
        Check.digest("emptied", x, -1, NOTHING);
        x.commit();
        Check.digest("kept", x, 0, NOTHING);
    }

    private static void digestOfNoneInsideMore() {
        Check.sentence("Terms: when there are none, eight words 0 (beside a node with more)");
        ProofMap x = new ProofMap();
        x.put(0, 1);
        x.put(16384, 2);
        x.prove(-1, 0);
        Check.siblingWords("beside the first bit", x, 0, NOTHING);
        int[] two = Model.more(Model.one(0, 1), Model.one(16384, 2));
        Check.digest("32 bytes 0 behind", x, -1, Model.more(two, NOTHING));
    }

    /** The written numbers are those of another program's SHA-256. */
    private static void digestOfOne() {
        Check.sentence("Terms: when there is one, that of the bytes 0, the key's two, the value's four");
        int[] lowest = {
            -2089253432, -133621014, -341916733, -128290828, 1889801702, 280541758, 1241101116, -1661348327
        };
        int[] highest = {
            -235322800, 1463022741, 1405616500, -419206506, -1164587900, -383927480, 1295513795, 1714244892
        };
        int[] inOrder = {
            1463114435, 809243791, 296679371, 395597497, 590143027, -1474764838, 741329811, 628398699
        };
        Check.digest("bytes 0, 0 0, 0 0 0 0", ofOne(0, 0), -1, lowest);
        Check.digest("bytes 0, 255 255, 255 255 255 255", ofOne(65535, -1), -1, highest);
        Check.digest("bytes 0, 1 2, 3 4 5 6", ofOne(0x0102, 0x03040506), -1, inOrder);
    }

    private static ProofMap ofOne(int key, int value) {
        ProofMap x = new ProofMap();
        x.put(key, value);
        return x;
    }

    private static void digestOfOneAtAnyDepth() {
        Check.sentence("Terms: when there is one (whatever the number of bits)");
        for (int bit = 0; bit < 16; bit++) {
            ProofMap x = new ProofMap();
            int other = 32768 >>> bit;
            x.put(0, 5);
            x.put(other, 6);
            x.prove(-1, 0);
            Check.siblingWords("node of " + (bit + 1) + " bits", x, bit, Model.one(other, 6));
        }
    }

    private static void digestOfTwo() {
        Check.sentence("Terms: when there are more, that of the byte 1, the digest with a 0 behind, that with a 1 behind");
        ProofMap x = new ProofMap();
        x.put(65535, -1);
        x.put(0, 0);
        int[] farApart = {
            286851395, 1295355706, -917053121, 929326128, -1844359744, 1924157158, 1456498343, -1720344970
        };
        Check.digest("two that differ in the first bit", x, -1, farApart);
        ProofMap y = new ProofMap();
        y.put(1, 2);
        y.put(0, 1);
        int[] neighbours = {
            -794789217, -221649542, 662656230, 332880845, 667619485, 442712711, 246368659, -230563465
        };
        Check.digest("two that differ in the last bit", y, -1, neighbours);
    }

    private static void digestOfMost() {
        Check.sentence("Terms: when there are more (300)");
        Model model = new Model();
        for (int i = 0; i < 300; i++) {
            model.put(i * 211, i);
        }
        ProofMap x = Sample.ofEntries(300);
        for (int i = 0; i < 8; i++) {
            Check.due("word(-1, " + i + ")", x.word(-1, i), model.word(-1, i));
        }
    }

    private static void digestOfOneAgain() {
        Check.sentence("Terms: when there is one (again, after there were more)");
        ProofMap x = new ProofMap();
        x.put(65534, 1);
        x.put(65535, 2);
        x.word(-1, 0);
        x.remove(65534);
        Check.digest("the second is left", x, -1, Model.one(65535, 2));
        x.put(65534, 1);
        x.remove(65535);
        Check.digest("the first is left", x, -1, Model.one(65534, 1));
    }

    private static void nodeOfNoBits() {
        Check.sentence("Terms: THE ROOT is the node of no bits; a map's DIGEST is that of its root");
        ProofMap x = new ProofMap();
        x.put(1, 1);
        x.put(40000, 2);
        x.put(50000, 3);
        int[] right = Model.more(Model.one(40000, 2), Model.one(50000, 3));
        Check.digest("both halves are in it", x, -1, Model.more(Model.one(1, 1), right));
    }

    private static void nodeOfSixteenBits() {
        Check.sentence("Terms: a row of b bits (0 .. 16)");
        ProofMap x = new ProofMap();
        x.put(65534, 1);
        x.put(65535, 2);
        Check.due("prove(-1, 65535)", x.prove(-1, 65535), 16);
        Check.proofEnd("its end", x, 1, 65535, 2);
        Check.siblingWords("beside it", x, 15, Model.one(65534, 1));
        int[] two = Model.more(Model.one(65534, 1), Model.one(65535, 2));
        Check.digest("from 16 bits up to none", x, -1, Sample.alone("111111111111111", two));
    }

    private static void versionsFromZero() {
        Check.sentence("Terms: VERSIONS are numbered from 0");
        ProofMap x = new ProofMap();
        x.put(1, 10);
        Check.due("the first commit()", x.commit(), 0);
        x.put(1, 11);
        Check.due("the second commit()", x.commit(), 1);
        Check.due("get(0, 1)", x.get(0, 1), 10);
        Check.due("get(1, 1)", x.get(1, 1), 11);
    }

    private static void mostVersions() {
        Check.sentence("Terms: at most 60");
        ProofMap x = Sample.ofVersions(59);
        x.put(7, 59);
        Check.due("the 60th commit()", x.commit(), 59);
        x.put(7, 60);
        Check.due("the 61st commit()", x.commit(), FULL);
        for (int v = 0; v < 60; v++) {
            Check.due("get(" + v + ", 7)", x.get(v, 7), v);
        }
        Check.due("get(60, 7)", x.get(60, 7), NONE);
    }

    private static void versionNow() {
        Check.sentence("Terms: -1 is the map as it is now");
        ProofMap x = new ProofMap();
        x.put(5, 50);
        x.put(6, 60);
        x.commit();
        x.put(5, 51);
        x.remove(6);
        Check.due("get(-1, 5)", x.get(-1, 5), 51);
        Check.due("size(-1)", x.size(-1), 1);
        Check.digest("now", x, -1, Model.one(5, 51));
        Check.due("prove(-1, 5)", x.prove(-1, 5), 0);
        Check.due("verify(-1, 5)", x.verify(-1, 5), 1);
        Check.due("verify(0, 5)", x.verify(0, 5), NO);
    }

    private static void proofWithoutSiblings() {
        Check.sentence("Terms: as long as the node has more than one entry (none and one are not more)");
        ProofMap x = new ProofMap();
        Check.due("none: prove(-1, 0)", x.prove(-1, 0), 0);
        Check.due("none: prove(-1, 65535)", x.prove(-1, 65535), 0);
        x.put(0, 1);
        Check.due("one: prove(-1, 0)", x.prove(-1, 0), 0);
        Check.due("one: prove(-1, 65535)", x.prove(-1, 65535), 0);
        x.put(32768, 1);
        Check.due("two: prove(-1, 0)", x.prove(-1, 0), 1);
        Check.due("two: prove(-1, 65535)", x.prove(-1, 65535), 1);
    }

    private static void proofOfEachLength() {
        Check.sentence("Terms: on to the node with the key's next bit; of each other node the digest, a SIBLING");
        for (int bit = 0; bit < 16; bit++) {
            ProofMap x = new ProofMap();
            x.put(65535, 1);
            x.put(65535 ^ (32768 >>> bit), 2);
            Check.due("alike at " + bit + " bits: prove(-1, 65535)", x.prove(-1, 65535), bit + 1);
            for (int k = 0; k < bit; k++) {
                Check.siblingWords("alike at " + bit + " bits", x, k, NOTHING);
            }
            Check.siblingWords("alike at " + bit + " bits", x, bit, Model.one(65535 ^ (32768 >>> bit), 2));
        }
    }

    private static void firstSibling() {
        Check.sentence("Terms: the first one is that beside the root's");
        ProofMap x = Sample.ofLongProof();
        Check.siblingWords("beside the root's", x, 0, Model.one(32768, 12));
        Check.siblingWords("the last one", x, 15, Model.one(1, 11));
        x.prove(-1, 65535);
        int[] two = Model.more(Model.one(0, 10), Model.one(1, 11));
        Check.siblingWords("the other half's", x, 0, Sample.alone("00000000000000", two));
    }

    private static void endNothing() {
        Check.sentence("Terms: THE END is what the last node has: nothing");
        ProofMap x = new ProofMap();
        x.prove(-1, 9);
        Check.proofEnd("an empty map", x, 0, 0, 0);
        x.put(0, 1);
        x.put(1, 2);
        Check.due("prove(-1, 65535)", x.prove(-1, 65535), 1);
        Check.proofEnd("an empty half", x, 0, 0, 0);
        Check.due("prove(-1, 2)", x.prove(-1, 2), 15);
        Check.proofEnd("an empty node of 15 bits", x, 0, 0, 0);
        x.put(4, 3);
        x.put(6, 4);
        x.put(7, 5);
        Check.due("prove(-1, 5)", x.prove(-1, 5), 15);
        Check.proofEnd("a node of 15 bits with 4", x, 1, 4, 3);
    }

    private static void endEntry() {
        Check.sentence("Terms: THE END is what the last node has: an entry");
        ProofMap x = new ProofMap();
        x.put(0, -1);
        x.prove(-1, 0);
        Check.proofEnd("the only entry", x, 1, 0, -1);
        x.put(1, -2);
        x.prove(-1, 1);
        Check.proofEnd("a node of 16 bits", x, 1, 1, -2);
    }

    private static void endOfAnotherKey() {
        Check.sentence("Terms: THE END is what the last node has (an entry of another key too)");
        ProofMap x = new ProofMap();
        x.put(32768, 3);
        x.prove(-1, 0);
        Check.proofEnd("the only entry", x, 1, 32768, 3);
        x.put(0, 4);
        x.prove(-1, 65535);
        Check.proofEnd("alike at the first bit", x, 1, 32768, 3);
        Check.due("it is not there", x.verify(-1, 65535), 0);
    }

    private static void fitOfNothing() {
        Check.sentence("Terms: FIT, when the end is nothing");
        ProofMap x = new ProofMap();
        Check.due("an empty map and any key: verify(-1, 0)", x.verify(-1, 0), 0);
        Check.due("an empty map and any key: verify(-1, 65535)", x.verify(-1, 65535), 0);
        x.put(0, 1);
        Check.due("a map with an entry", x.verify(-1, 0), NO);
        x.put(1, 2);
        x.prove(-1, 2);
        Check.due("15 siblings: verify(-1, 2)", x.verify(-1, 2), 0);
        Check.due("15 siblings: verify(-1, 3)", x.verify(-1, 3), 0);
        Check.due("15 siblings: verify(-1, 4)", x.verify(-1, 4), NO);
    }

    /** Without a digest forged for it (ForgedDigestTest) only the side that fits can be told from the other rule. */
    private static void fitOfFirstBits() {
        Check.sentence("Terms: FIT, an entry whose key has as many first bits as there are siblings alike with the key's");
        ProofMap x = new ProofMap();
        x.put(32768, 3);
        x.prove(-1, 32768);
        Check.due("no siblings, no bit alike: verify(-1, 0)", x.verify(-1, 0), 0);
        x.put(0, 4);
        x.prove(-1, 32768);
        Check.due("one sibling, one bit alike: verify(-1, 65535)", x.verify(-1, 65535), 0);
        Check.due("one sibling, no bit alike: verify(-1, 32767)", x.verify(-1, 32767), NO);
        x.put(32770, 5);
        Check.due("prove(-1, 32768)", x.prove(-1, 32768), 15);
        Check.due("15 siblings, 15 bits alike: verify(-1, 32769)", x.verify(-1, 32769), 0);
        Check.due("15 siblings, 14 bits alike: verify(-1, 32770)", x.verify(-1, 32770), NO);
        x.put(32769, 6);
        Check.due("prove(-1, 32768)", x.prove(-1, 32768), 16);
        Check.due("16 siblings, 16 bits alike: verify(-1, 32768)", x.verify(-1, 32768), 1);
        Check.due("16 siblings, 15 bits alike: verify(-1, 32769)", x.verify(-1, 32769), NO);
    }

    private static void fitOfDigest() {
        Check.sentence("Terms: FIT, when the digest of the end comes to be the digest (all eight words)");
        ProofMap x = Sample.ofLongProof();
        Check.due("the map's", x.verify(-1, 0), 1);
        Check.due("the version's", x.verify(0, 0), NO);
        x.claim(0, 11);
        Check.due("another value", x.verify(-1, 0), NO);
        x.claim(-1, 0);
        Check.due("nothing", x.verify(-1, 0), NO);
        x.claim(0, 10);
        Check.due("the entry again", x.verify(-1, 0), 1);
    }

    private static void fitFromTheLastSibling() {
        Check.sentence("Terms: with the siblings, from the last one to the first, by the key's bits");
        ProofMap x = new ProofMap();
        x.put(0, 1);
        x.put(16384, 2);
        x.put(32768, 3);
        x.prove(-1, 0);
        Check.due("two siblings", x.verify(-1, 0), 1);
        int[] first = Model.one(32768, 3);
        int[] last = Model.one(16384, 2);
        for (int i = 0; i < 8; i++) {
            x.alter(0, i, first[i] ^ last[i]);
            x.alter(1, i, first[i] ^ last[i]);
        }
        Check.due("changed about", x.verify(-1, 0), NO);
        x.prove(-1, 16384);
        Check.due("bits 0, 1", x.verify(-1, 16384), 1);
        Check.due("bits 0, 0", x.verify(-1, 0), NO);
        Check.due("bits 1, 0", x.verify(-1, 32768), NO);
    }

    private static void saysThere() {
        Check.sentence("Terms: It SAYS that the entry is there, when the end is an entry with that key");
        ProofMap x = new ProofMap();
        x.put(0, 0);
        x.prove(-1, 0);
        Check.due("key 0 with the value 0", x.verify(-1, 0), 1);
        x.put(65535, -1);
        x.prove(-1, 65535);
        Check.due("key 65535 with the value -1", x.verify(-1, 65535), 1);
    }

    private static void saysNotThere() {
        Check.sentence("Terms: It SAYS that the entry is there .. else that it is not");
        ProofMap x = new ProofMap();
        x.prove(-1, 0);
        Check.due("nothing, and key 0", x.verify(-1, 0), 0);
        x.put(1, 0);
        x.prove(-1, 0);
        Check.due("an entry alike at 15 bits", x.verify(-1, 0), 0);
        x.put(65535, 0);
        x.prove(-1, 32768);
        Check.due("an entry alike at one bit", x.verify(-1, 32768), 0);
        Check.due("refused keys are none", x.verify(-1, -1), BAD);
    }
}
