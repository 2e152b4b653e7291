/** The document's promises one by one: ordinary inputs, the edges that it names, wrong inputs. */
final class PromiseTest {
    private static final int BAD = -1;
    private static final int NO = -2;
    private static final int FULL = -3;
    private static final long NONE = 9223372036854775807L;
    private static final int[] NO_KEYS = {Integer.MIN_VALUE, -65536, -2, -1, 65536, 65537, Integer.MAX_VALUE};
    private static final int[] NO_WORDS = {Integer.MIN_VALUE, -1, 8, 9, Integer.MAX_VALUE};

    private PromiseTest() {
    }

    public static void main(String[] args) {
        newObject();
        put();
        putUpToFull();
        remove();
        get();
        size();
        commit();
        commitUpToFull();
        back();
        word();
        digestOfManyEntries();
        prove();
        proveLeavesProofAlone();
        siblings();
        sibling();
        end();
        alter();
        claim();
        cut();
        verify();
        verifyByAnotherKey();
        verifyMadeByHand();
        verifyWrong();
        alike();
        versions();
        Check.end();
    }

    /** Promise 1. */
    private static void newObject() {
        ProofMap x = new ProofMap();
        Check.due("new: size(-1)", x.size(-1), 0);
        Check.due("new: versions()", x.versions(), 0);
        Check.due("new: siblings()", x.siblings(), 0);
        Check.due("new: end(0)", x.end(0), 0);
        Check.due("new: end(1)", x.end(1), 0);
        Check.due("new: end(2)", x.end(2), 0);
        Check.digest("new", x, -1, new int[8]);
        Check.due("new: verify(-1, 0): nothing fits an empty map", x.verify(-1, 0), 0);
        Check.due("new: size(0)", x.size(0), BAD);
        Check.due("new: get(-1, 0)", x.get(-1, 0), NONE);
        ProofMap other = new ProofMap();
        other.put(1, 1);
        Check.due("new: size(-1) beside another object", x.size(-1), 0);
    }

    /** Promise 2. */
    private static void put() {
        ProofMap x = new ProofMap();
        Check.due("put(0, 7)", x.put(0, 7), 1);
        Check.due("put(0, 8) again", x.put(0, 8), 0);
        Check.due("put(0, 8) the same", x.put(0, 8), 0);
        Check.due("put(65535, MIN)", x.put(65535, Integer.MIN_VALUE), 1);
        Check.due("put(1, MAX)", x.put(1, Integer.MAX_VALUE), 1);
        Check.due("get(-1, 0) after puts", x.get(-1, 0), 8);
        Check.due("get(-1, 65535) after puts", x.get(-1, 65535), Integer.MIN_VALUE);
        Check.due("get(-1, 1) after puts", x.get(-1, 1), Integer.MAX_VALUE);
        for (int key : NO_KEYS) {
            Check.due("put(" + key + ", 1)", x.put(key, 1), BAD);
        }
        Check.due("size(-1) after puts", x.size(-1), 3);
    }

    private static void putUpToFull() {
        ProofMap x = new ProofMap();
        for (int i = 0; i < 300; i++) {
            Check.due("put no. " + (i + 1), x.put(i * 211, i), 1);
        }
        Check.due("put no. 301", x.put(1, 1), FULL);
        Check.due("get(-1, 1) after FULL", x.get(-1, 1), NONE);
        Check.due("size(-1) when full", x.size(-1), 300);
        Check.due("put of a key that is there, when full", x.put(211, -5), 0);
        Check.due("its value", x.get(-1, 211), -5);
        Check.due("put(-1, 0) when full", x.put(-1, 0), BAD);
        Check.due("put(65536, 0) when full", x.put(65536, 0), BAD);
        Check.due("remove when full", x.remove(0), 1);
        Check.due("put after that", x.put(1, 1), 1);
        Check.due("put after that, one more", x.put(2, 1), FULL);
    }

    /** Promise 3. */
    private static void remove() {
        ProofMap x = new ProofMap();
        Check.due("remove(0) of nothing", x.remove(0), 0);
        x.put(0, 1);
        x.put(1, 2);
        x.put(65535, 3);
        Check.due("remove(2), not there", x.remove(2), 0);
        Check.due("remove(65535)", x.remove(65535), 1);
        Check.due("remove(65535) again", x.remove(65535), 0);
        Check.due("get(-1, 65535) after remove", x.get(-1, 65535), NONE);
        Check.due("size(-1) after remove", x.size(-1), 2);
        Check.due("remove(0)", x.remove(0), 1);
        Check.due("get(-1, 1) stays", x.get(-1, 1), 2);
        Check.digest("one entry is left", x, -1, Model.one(1, 2));
        for (int key : NO_KEYS) {
            Check.due("remove(" + key + ")", x.remove(key), BAD);
        }
        Check.due("remove(1)", x.remove(1), 1);
        Check.digest("none is left", x, -1, new int[8]);
        Check.due("size(-1) of none", x.size(-1), 0);
    }

    /** Promise 4. */
    private static void get() {
        ProofMap x = new ProofMap();
        x.put(0, -1);
        x.put(65535, 0);
        x.commit();
        x.put(0, 5);
        x.remove(65535);
        x.put(9, 9);
        Check.due("get(0, 0)", x.get(0, 0), -1);
        Check.due("get(0, 65535)", x.get(0, 65535), 0);
        Check.due("get(0, 9)", x.get(0, 9), NONE);
        Check.due("get(-1, 0)", x.get(-1, 0), 5);
        Check.due("get(-1, 65535)", x.get(-1, 65535), NONE);
        Check.due("get(-1, 9)", x.get(-1, 9), 9);
        Check.due("get(-1, 8)", x.get(-1, 8), NONE);
        Check.due("get(1, 0)", x.get(1, 0), NONE);
        Check.due("get(-2, 0)", x.get(-2, 0), NONE);
        Check.due("get(MAX, 0)", x.get(Integer.MAX_VALUE, 0), NONE);
        Check.due("get(MIN, 0)", x.get(Integer.MIN_VALUE, 0), NONE);
        for (int key : NO_KEYS) {
            Check.due("get(-1, " + key + ")", x.get(-1, key), NONE);
            Check.due("get(0, " + key + ")", x.get(0, key), NONE);
        }
    }

    /** Promise 5. */
    private static void size() {
        ProofMap x = new ProofMap();
        x.commit();
        x.put(4, 4);
        x.put(5, 5);
        x.commit();
        x.put(6, 6);
        Check.due("size(0)", x.size(0), 0);
        Check.due("size(1)", x.size(1), 2);
        Check.due("size(-1)", x.size(-1), 3);
        Check.due("size(2)", x.size(2), BAD);
        Check.due("size(-2)", x.size(-2), BAD);
        Check.due("size(60)", x.size(60), BAD);
        Check.due("size(MAX)", x.size(Integer.MAX_VALUE), BAD);
        Check.due("size(MIN)", x.size(Integer.MIN_VALUE), BAD);
    }

    /** Promise 6. */
    private static void commit() {
        ProofMap x = new ProofMap();
        Check.due("commit() of nothing", x.commit(), 0);
        x.put(1, 1);
        Check.due("commit() of one entry", x.commit(), 1);
        Check.due("commit() of the same", x.commit(), 2);
        x.put(1, 2);
        x.put(2, 2);
        Check.digest("version 0", x, 0, new int[8]);
        Check.digest("version 1", x, 1, Model.one(1, 1));
        Check.digest("version 2", x, 2, Model.one(1, 1));
        Check.due("get(1, 1) stays", x.get(1, 1), 1);
        Check.due("size(-1) after commit() goes on", x.size(-1), 2);
    }

    private static void commitUpToFull() {
        ProofMap x = new ProofMap();
        for (int i = 0; i < 60; i++) {
            x.put(7, i);
            Check.due("commit no. " + (i + 1), x.commit(), i);
        }
        x.put(7, 60);
        Check.due("commit no. 61", x.commit(), FULL);
        Check.due("commit no. 62", x.commit(), FULL);
        Check.due("versions() when full", x.versions(), 60);
        Check.due("get(59, 7)", x.get(59, 7), 59);
        Check.due("get(0, 7)", x.get(0, 7), 0);
        Check.due("get(-1, 7)", x.get(-1, 7), 60);
        Check.due("size(60)", x.size(60), BAD);
        Check.due("back(60)", x.back(60), BAD);
        Check.due("back(59)", x.back(59), 1);
        Check.due("get(-1, 7) after back", x.get(-1, 7), 59);
        Check.due("commit after back, when full", x.commit(), FULL);
    }

    /** Promise 7. */
    private static void back() {
        ProofMap x = new ProofMap();
        Check.due("back(0) without versions", x.back(0), BAD);
        x.commit();
        x.put(1, 1);
        x.put(2, 2);
        x.commit();
        x.put(1, 9);
        x.remove(2);
        Check.due("back(-1)", x.back(-1), BAD);
        Check.due("back(2)", x.back(2), BAD);
        Check.due("back(-2)", x.back(-2), BAD);
        Check.due("back(MIN)", x.back(Integer.MIN_VALUE), BAD);
        Check.due("back(MAX)", x.back(Integer.MAX_VALUE), BAD);
        Check.due("get(-1, 1) after BAD", x.get(-1, 1), 9);
        Check.due("back(1)", x.back(1), 2);
        Check.due("get(-1, 1) after back", x.get(-1, 1), 1);
        Check.due("get(-1, 2) after back", x.get(-1, 2), 2);
        x.put(3, 3);
        Check.due("size(1) stays", x.size(1), 2);
        Check.due("back(0)", x.back(0), 0);
        Check.due("size(-1) after back(0)", x.size(-1), 0);
        Check.due("versions() after back", x.versions(), 2);
        Check.due("commit() after back", x.commit(), 2);
    }

    /** Promise 8; the written numbers are SHA-256 of bytes 0, 0, 5, 255, 255, 255, 255. */
    private static void word() {
        ProofMap x = new ProofMap();
        x.put(5, -1);
        Check.due("word(-1, 0)", x.word(-1, 0), -411307012);
        Check.due("word(-1, 3)", x.word(-1, 3), -599324835);
        Check.due("word(-1, 7)", x.word(-1, 7), 848534137);
        Check.digest("one entry", x, -1, Model.one(5, -1));
        x.commit();
        x.put(32768, 6);
        Check.digest("two entries", x, -1, Model.more(Model.one(5, -1), Model.one(32768, 6)));
        Check.digest("the version stays", x, 0, Model.one(5, -1));
        x.put(32768, 7);
        Check.digest("another value", x, -1, Model.more(Model.one(5, -1), Model.one(32768, 7)));
        for (int i : NO_WORDS) {
            Check.due("word(-1, " + i + ")", x.word(-1, i), 0);
            Check.due("word(0, " + i + ")", x.word(0, i), 0);
        }
        Check.due("word(1, 0)", x.word(1, 0), 0);
        Check.due("word(-2, 0)", x.word(-2, 0), 0);
        Check.due("word(MAX, 0)", x.word(Integer.MAX_VALUE, 0), 0);
        Check.due("word(MIN, 0)", x.word(Integer.MIN_VALUE, 0), 0);
    }

    /** Promise 8: the digest is that of the entries, however they came. */
    private static void digestOfManyEntries() {
        ProofMap x = new ProofMap();
        ProofMap y = new ProofMap();
        Model model = new Model();
        for (int i = 0; i < 100; i++) {
            x.put(i * 655, i);
            y.put((99 - i) * 655, 99 - i);
            model.put(i * 655, i);
        }
        for (int i = 0; i < 50; i++) {
            y.put(i * 655 + 1, 1);
        }
        for (int i = 0; i < 50; i++) {
            y.remove(i * 655 + 1);
        }
        for (int i = 0; i < 8; i++) {
            Check.due("100 entries: word(-1, " + i + ")", x.word(-1, i), model.word(-1, i));
            Check.due("in another order: word(-1, " + i + ")", y.word(-1, i), model.word(-1, i));
        }
        ProofMap z = new ProofMap();
        z.put(65534, 1);
        z.put(65535, 2);
        int[] chain = Model.more(Model.one(65534, 1), Model.one(65535, 2));
        for (int i = 0; i < 15; i++) {
            chain = Model.more(new int[8], chain);
        }
        Check.digest("two keys alike at 15 bits", z, -1, chain);
    }

    /** Promise 9. */
    private static void prove() {
        ProofMap x = new ProofMap();
        Check.due("prove(-1, 0) of nothing", x.prove(-1, 0), 0);
        Check.proofEnd("nothing", x, 0, 0, 0);
        x.put(0, 10);
        Check.due("prove(-1, 65535) beside one entry", x.prove(-1, 65535), 0);
        Check.proofEnd("one entry, another key's", x, 1, 0, 10);
        x.commit();
        x.put(1, 11);
        x.put(65535, 12);
        Check.due("prove(-1, 0)", x.prove(-1, 0), 16);
        Check.proofEnd("0", x, 1, 0, 10);
        Check.siblingWords("first", x, 0, Model.one(65535, 12));
        Check.siblingWords("second", x, 1, new int[8]);
        Check.siblingWords("last", x, 15, Model.one(1, 11));
        Check.due("prove(-1, 16384)", x.prove(-1, 16384), 2);
        Check.proofEnd("16384", x, 0, 0, 0);
        Check.due("prove(-1, 40000)", x.prove(-1, 40000), 1);
        Check.proofEnd("40000", x, 1, 65535, 12);
        Check.due("prove(0, 1)", x.prove(0, 1), 0);
        Check.proofEnd("1 in version 0", x, 1, 0, 10);
    }

    /** Promise 9: neither BAD nor what the map becomes changes the proof at hand. */
    private static void proveLeavesProofAlone() {
        ProofMap x = new ProofMap();
        x.put(0, 10);
        x.put(32768, 11);
        x.prove(-1, 0);
        for (int key : NO_KEYS) {
            Check.due("prove(-1, " + key + ")", x.prove(-1, key), BAD);
        }
        Check.due("prove(0, 0)", x.prove(0, 0), BAD);
        Check.due("prove(-2, 0)", x.prove(-2, 0), BAD);
        Check.due("prove(MAX, 0)", x.prove(Integer.MAX_VALUE, 0), BAD);
        Check.due("prove(MIN, 0)", x.prove(Integer.MIN_VALUE, 0), BAD);
        x.commit();
        x.put(0, 20);
        x.put(32768, 21);
        x.remove(0);
        Check.due("siblings() of the old proof", x.siblings(), 1);
        Check.siblingWords("old proof", x, 0, Model.one(32768, 11));
        Check.proofEnd("old proof", x, 1, 0, 10);
        Check.due("the old proof against the old version", x.verify(0, 0), 1);
        Check.due("the old proof against the map", x.verify(-1, 0), NO);
        x.back(0);
        Check.due("the old proof against the map that is back", x.verify(-1, 0), 1);
    }

    /** Promise 10. */
    private static void siblings() {
        ProofMap x = new ProofMap();
        Check.due("siblings() at first", x.siblings(), 0);
        x.put(2, 1);
        x.put(3, 1);
        Check.due("siblings() before prove", x.siblings(), 0);
        x.prove(-1, 2);
        Check.due("siblings() of 16", x.siblings(), 16);
        x.prove(-1, 8192);
        Check.due("siblings() of 3", x.siblings(), 3);
        x.remove(2);
        Check.due("siblings() after remove", x.siblings(), 3);
        x.prove(-1, 3);
        Check.due("siblings() of one entry", x.siblings(), 0);
    }

    /** Promise 11. */
    private static void sibling() {
        ProofMap x = new ProofMap();
        Check.due("sibling(0, 0) at first", x.sibling(0, 0), 0);
        x.put(0, 1);
        x.put(1, 2);
        x.put(49152, 3);
        x.put(65535, 4);
        x.prove(-1, 0);
        int[] two = Model.more(Model.one(49152, 3), Model.one(65535, 4));
        Check.siblingWords("beside the first bit", x, 0, Model.more(new int[8], two));
        Check.siblingWords("beside the last bit", x, 15, Model.one(1, 2));
        for (int i : NO_WORDS) {
            Check.due("sibling(0, " + i + ")", x.sibling(0, i), 0);
            Check.due("sibling(15, " + i + ")", x.sibling(15, i), 0);
        }
        int[] noSiblings = {Integer.MIN_VALUE, -1, 16, 17, Integer.MAX_VALUE};
        for (int k : noSiblings) {
            Check.due("sibling(" + k + ", 0)", x.sibling(k, 0), 0);
        }
        x.prove(-1, 49152);
        Check.due("a shorter proof: siblings()", x.siblings(), 3);
        Check.siblingWords("a shorter proof", x, 2, Model.one(65535, 4));
        Check.siblingWords("behind its end", x, 3, new int[8]);
        Check.siblingWords("where the longer one had its last", x, 15, new int[8]);
    }

    /** Promise 12. */
    private static void end() {
        ProofMap x = new ProofMap();
        x.put(65535, -7);
        x.prove(-1, 65535);
        Check.proofEnd("65535", x, 1, 65535, -7);
        int[] noEnds = {Integer.MIN_VALUE, -2, -1, 3, 4, Integer.MAX_VALUE};
        for (int what : noEnds) {
            Check.due("end(" + what + ")", x.end(what), BAD);
        }
        x.put(65534, -8);
        x.prove(-1, 0);
        Check.proofEnd("nothing", x, 0, 0, 0);
    }

    /** Promise 13. */
    private static void alter() {
        ProofMap x = new ProofMap();
        Check.due("alter(0, 0, 1) without siblings", x.alter(0, 0, 1), BAD);
        x.put(0, 1);
        x.put(1, 2);
        x.prove(-1, 0);
        int[] last = Model.one(1, 2);
        int before = x.word(-1, 0);
        for (int i = 0; i < 8; i++) {
            Check.due("alter(15, " + i + ", " + (-5 - i) + ")", x.alter(15, i, -5 - i), 1);
            Check.due("altered: sibling(15, " + i + ")", x.sibling(15, i), last[i] ^ (-5 - i));
            Check.due("altered: verify", x.verify(-1, 0), NO);
            Check.due("alter again", x.alter(15, i, -5 - i), 1);
            Check.due("altered twice: verify", x.verify(-1, 0), 1);
        }
        Check.due("alter(0, 7, MIN)", x.alter(0, 7, Integer.MIN_VALUE), 1);
        Check.due("altered: sibling(0, 7)", x.sibling(0, 7), Integer.MIN_VALUE);
        Check.due("others stay: sibling(1, 7)", x.sibling(1, 7), 0);
        Check.due("others stay: sibling(0, 6)", x.sibling(0, 6), 0);
        Check.due("alter(0, 0, 0)", x.alter(0, 0, 0), 1);
        Check.due("alter(16, 0, 1)", x.alter(16, 0, 1), BAD);
        Check.due("alter(-1, 0, 1)", x.alter(-1, 0, 1), BAD);
        Check.due("alter(MIN, 0, 1)", x.alter(Integer.MIN_VALUE, 0, 1), BAD);
        for (int i : NO_WORDS) {
            Check.due("alter(0, " + i + ", 1)", x.alter(0, i, 1), BAD);
        }
        Check.due("the map stays: word(-1, 0)", x.word(-1, 0), before);
        x.prove(-1, 0);
        Check.siblingWords("proved anew", x, 0, new int[8]);
        Check.siblingWords("proved anew", x, 15, last);
        x.prove(-1, 1);
        Check.siblingWords("of nothing", x, 0, new int[8]);
    }

    /** Promise 14. */
    private static void claim() {
        ProofMap x = new ProofMap();
        Check.due("claim(65535, -3)", x.claim(65535, -3), 1);
        Check.proofEnd("claimed", x, 1, 65535, -3);
        Check.due("claim(0, 4)", x.claim(0, 4), 1);
        Check.proofEnd("claimed", x, 1, 0, 4);
        int[] noClaims = {Integer.MIN_VALUE, -65536, -2, 65536, Integer.MAX_VALUE};
        for (int key : noClaims) {
            Check.due("claim(" + key + ", 1)", x.claim(key, 1), BAD);
        }
        Check.proofEnd("after BAD", x, 1, 0, 4);
        Check.due("claim(-1, 5)", x.claim(-1, 5), 1);
        Check.proofEnd("nothing claimed", x, 0, 0, 0);
        x.put(0, 1);
        x.put(32768, 2);
        x.prove(-1, 0);
        x.claim(0, 2);
        Check.due("claimed: siblings() stay", x.siblings(), 1);
        Check.siblingWords("claimed", x, 0, Model.one(32768, 2));
        Check.due("claimed: the map stays", x.get(-1, 0), 1);
        Check.due("claimed: another value", x.verify(-1, 0), NO);
        x.claim(0, 1);
        Check.due("claimed: the value", x.verify(-1, 0), 1);
    }

    /** Promise 15. */
    private static void cut() {
        ProofMap x = new ProofMap();
        Check.due("cut(1) without siblings", x.cut(1), BAD);
        Check.due("cut(0) without siblings", x.cut(0), 1);
        x.put(0, 1);
        x.put(1, 2);
        x.put(32768, 3);
        x.prove(-1, 0);
        Check.due("cut(17)", x.cut(17), BAD);
        Check.due("cut(MAX)", x.cut(Integer.MAX_VALUE), BAD);
        Check.due("cut(-1)", x.cut(-1), BAD);
        Check.due("cut(MIN)", x.cut(Integer.MIN_VALUE), BAD);
        Check.due("siblings() after BAD", x.siblings(), 16);
        Check.due("cut(16) of 16", x.cut(16), 1);
        Check.due("verify after cut(16)", x.verify(-1, 0), 1);
        Check.due("cut(15)", x.cut(15), 1);
        Check.due("siblings() after cut(15)", x.siblings(), 15);
        Check.siblingWords("cut off", x, 15, new int[8]);
        Check.due("alter of what is cut off", x.alter(15, 0, 1), BAD);
        Check.due("cut(16) of 15", x.cut(16), BAD);
        Check.due("verify after cut(15)", x.verify(-1, 0), NO);
        Check.due("cut(1)", x.cut(1), 1);
        Check.siblingWords("the first stays", x, 0, Model.one(32768, 3));
        Check.proofEnd("the end stays", x, 1, 0, 1);
        Check.due("cut(0)", x.cut(0), 1);
        Check.due("siblings() after cut(0)", x.siblings(), 0);
        Check.due("cut(1) of 0", x.cut(1), BAD);
    }

    /** Promise 16. */
    private static void verify() {
        ProofMap x = new ProofMap();
        x.put(0, 1);
        x.put(1, 2);
        x.put(40000, 3);
        x.put(65535, 4);
        int[] there = {0, 1, 40000, 65535};
        for (int key : there) {
            x.prove(-1, key);
            Check.due("verify(-1, " + key + "), there", x.verify(-1, key), 1);
        }
        int[] missing = {2, 3, 16384, 32768, 39999, 40001, 65534};
        for (int key : missing) {
            x.prove(-1, key);
            Check.due("verify(-1, " + key + "), not there", x.verify(-1, key), 0);
        }
    }

    /** Promise 16: the key that is judged need not be the one that was proved. */
    private static void verifyByAnotherKey() {
        ProofMap x = new ProofMap();
        x.put(40000, 3);
        x.put(1, 2);
        x.prove(-1, 40000);
        Check.due("of 40000: verify(-1, 65535)", x.verify(-1, 65535), 0);
        Check.due("of 40000: verify(-1, 32768)", x.verify(-1, 32768), 0);
        Check.due("of 40000: verify(-1, 32767)", x.verify(-1, 32767), NO);
        Check.due("of 40000: verify(-1, 1)", x.verify(-1, 1), NO);
        x.put(0, 9);
        x.prove(-1, 16384);
        Check.due("of nothing: verify(-1, 32767)", x.verify(-1, 32767), 0);
        Check.due("of nothing: verify(-1, 8192)", x.verify(-1, 8192), NO);
        Check.due("of nothing: verify(-1, 49152)", x.verify(-1, 49152), NO);
    }

    /**
     * Promise 16: proofs made by hand. That the end's key begins otherwise than the key, while the digests fit,
     * cannot be tried: the digest of a map has each entry where its own key's bits lead.
     */
    private static void verifyMadeByHand() {
        ProofMap x = new ProofMap();
        x.put(0, 1);
        x.put(32768, 2);
        int[] zero = Model.one(0, 1);
        int[] one = Model.one(32768, 2);
        x.prove(-1, 0);
        for (int i = 0; i < 8; i++) {
            x.alter(0, i, zero[i] ^ one[i]);
        }
        x.claim(32768, 2);
        Check.due("the other half's proof: verify(-1, 32768)", x.verify(-1, 32768), 1);
        Check.due("the other half's proof: verify(-1, 65535)", x.verify(-1, 65535), 0);
        Check.due("the other half's proof: verify(-1, 0)", x.verify(-1, 0), NO);
        x.remove(0);
        x.cut(0);
        Check.due("an entry without siblings: verify(-1, 32768)", x.verify(-1, 32768), 1);
        Check.due("an entry without siblings: verify(-1, 0)", x.verify(-1, 0), 0);
        x.remove(32768);
        Check.due("an entry, of an empty map", x.verify(-1, 0), NO);
        x.claim(-1, 0);
        Check.due("nothing, of an empty map", x.verify(-1, 65535), 0);
    }

    private static void verifyWrong() {
        ProofMap x = new ProofMap();
        x.put(0, 1);
        x.commit();
        x.put(1, 1);
        x.prove(0, 0);
        Check.due("verify(0, 0)", x.verify(0, 0), 1);
        Check.due("verify(-1, 0) of version 0's proof", x.verify(-1, 0), NO);
        for (int key : NO_KEYS) {
            Check.due("verify(-1, " + key + ")", x.verify(-1, key), BAD);
            Check.due("verify(0, " + key + ")", x.verify(0, key), BAD);
        }
        Check.due("verify(1, 0)", x.verify(1, 0), BAD);
        Check.due("verify(-2, 0)", x.verify(-2, 0), BAD);
        Check.due("verify(MAX, 0)", x.verify(Integer.MAX_VALUE, 0), BAD);
        Check.due("verify(MIN, 0)", x.verify(Integer.MIN_VALUE, 0), BAD);
        Check.due("verify leaves the proof: verify(0, 0)", x.verify(0, 0), 1);
        x.claim(-1, 0);
        Check.due("nothing, where an entry is", x.verify(0, 0), NO);
    }

    /** Promise 17. */
    private static void alike() {
        ProofMap x = new ProofMap();
        for (int bit = 0; bit < 16; bit++) {
            int mask = 32768 >>> bit;
            Check.due("alike(0, " + mask + ")", x.alike(0, mask), bit);
            Check.due("alike(65535, " + (65535 ^ mask) + ")", x.alike(65535, 65535 ^ mask), bit);
            Check.due("alike(" + mask + ", " + mask + ")", x.alike(mask, mask), 16);
            Check.due("alike(0, " + (2 * mask - 1) + ")", x.alike(0, 2 * mask - 1), bit);
        }
        Check.due("alike(0, 0)", x.alike(0, 0), 16);
        Check.due("alike(65535, 65535)", x.alike(65535, 65535), 16);
        for (int key : NO_KEYS) {
            Check.due("alike(" + key + ", 0)", x.alike(key, 0), BAD);
            Check.due("alike(0, " + key + ")", x.alike(0, key), BAD);
            Check.due("alike(" + key + ", " + key + ")", x.alike(key, key), BAD);
        }
    }

    /** Promise 18. */
    private static void versions() {
        ProofMap x = new ProofMap();
        Check.due("versions() at first", x.versions(), 0);
        x.put(1, 1);
        Check.due("versions() after put", x.versions(), 0);
        x.commit();
        x.commit();
        Check.due("versions() after two commits", x.versions(), 2);
        x.back(0);
        Check.due("versions() after back", x.versions(), 2);
    }
}
