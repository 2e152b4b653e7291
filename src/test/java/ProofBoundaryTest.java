/** The boundaries that promises 9 to 16 name, a test for each sentence. */
final class ProofBoundaryTest {
    private static final int BAD = -1;
    private static final int NO = -2;
    private static final int[] NOTHING = new int[8];
    private static final int[] TOO_SMALL_SIBLINGS = {-1, -16, Integer.MIN_VALUE};
    private static final int[] TOO_LARGE_SIBLINGS = {16, 17, 32, Integer.MAX_VALUE};

    private ProofBoundaryTest() {
    }

    public static void main(String[] args) {
        proveWithoutSiblings();
        proveWithMostSiblings();
        proveFirstAndLastVersion();
        proveKeyTooSmall();
        proveKeyTooLarge();
        proveVersionTooSmall();
        proveVersionTooLarge();
        proveAnew();
        proofStays();
        siblingsFromNoneToMost();
        siblingsAfterCut();
        siblingFirstAndLast();
        siblingWithoutAny();
        siblingTooSmall();
        siblingTooLarge();
        siblingWordTooSmall();
        siblingWordTooLarge();
        siblingOfAnEarlierProof();
        siblingThatWasCut();
        endOfAnEntry();
        endWithoutOne();
        endTooSmall();
        endTooLarge();
        alterFirstAndLast();
        alterByAnyMask();
        alterThatWordAlone();
        alterTheProofAlone();
        alterWithoutAny();
        alterTooSmall();
        alterTooLarge();
        alterWordTooSmall();
        alterWordTooLarge();
        alterOfWhatWasCut();
        claimFirstAndLast();
        claimNothing();
        claimTooSmall();
        claimTooLarge();
        claimTheEndAlone();
        cutToNone();
        cutToAll();
        cutToAllButOne();
        cutTheLastOnes();
        cutTooMany();
        cutTooFew();
        verifyThere();
        verifyNotThere();
        verifyEachWord();
        verifyCut();
        verifyClaimed();
        verifyFirstAndLastVersion();
        verifyKeyTooSmall();
        verifyKeyTooLarge();
        verifyVersionTooSmall();
        verifyVersionTooLarge();
        verifyChangesNothing();
        Check.end();
    }

    private static void proveWithoutSiblings() {
        Check.sentence("Promise 9: how many siblings it has (none)");
        ProofMap x = Sample.ofLongProof();
        x.remove(0);
        x.remove(1);
        Check.due("one entry: prove(-1, 0)", x.prove(-1, 0), 0);
        Check.proofEnd("one entry", x, 1, 32768, 12);
        x.remove(32768);
        Check.due("none: prove(-1, 0)", x.prove(-1, 0), 0);
        Check.proofEnd("none", x, 0, 0, 0);
        Check.due("siblings()", x.siblings(), 0);
    }

    private static void proveWithMostSiblings() {
        Check.sentence("Promise 9: how many siblings it has (16)");
        ProofMap x = new ProofMap();
        x.put(65534, 1);
        x.put(65535, 2);
        Check.due("prove(-1, 65534)", x.prove(-1, 65534), 16);
        Check.proofEnd("65534", x, 1, 65534, 1);
        Check.siblingWords("65534", x, 15, Model.one(65535, 2));
        Check.due("prove(-1, 65535)", x.prove(-1, 65535), 16);
        Check.proofEnd("65535", x, 1, 65535, 2);
        Check.siblingWords("65535", x, 15, Model.one(65534, 1));
        Check.due("one less: prove(-1, 65533)", x.prove(-1, 65533), 15);
    }

    private static void proveFirstAndLastVersion() {
        Check.sentence("Promise 9: The proof of a key in a version is at hand (the first, the last, and -1)");
        ProofMap x = Sample.ofVersions(60);
        x.put(7, -1);
        Check.due("prove(0, 7)", x.prove(0, 7), 0);
        Check.proofEnd("version 0", x, 1, 7, 0);
        Check.due("prove(59, 7)", x.prove(59, 7), 0);
        Check.proofEnd("version 59", x, 1, 7, 59);
        Check.due("prove(-1, 7)", x.prove(-1, 7), 0);
        Check.proofEnd("version -1", x, 1, 7, -1);
    }

    private static void proveKeyTooSmall() {
        Check.sentence("Promise 9: BAD (a key too small)");
        for (int key : Sample.TOO_SMALL_KEYS) {
            proveRefused(-1, key);
            proveRefused(0, key);
        }
    }

    private static void proveKeyTooLarge() {
        Check.sentence("Promise 9: BAD (a key too large)");
        for (int key : Sample.TOO_LARGE_KEYS) {
            proveRefused(-1, key);
            proveRefused(0, key);
        }
    }

    private static void proveVersionTooSmall() {
        Check.sentence("Promise 9: BAD (a version too small)");
        proveRefused(-2, 0);
        proveRefused(-60, 0);
        proveRefused(Integer.MIN_VALUE, 65535);
        proveRefused(-2, -1);
        Check.due("of 60: prove(-2, 7)", Sample.ofVersions(60).prove(-2, 7), BAD);
    }

    private static void proveVersionTooLarge() {
        Check.sentence("Promise 9: BAD (a version too large)");
        proveRefused(1, 0);
        proveRefused(59, 0);
        proveRefused(60, 0);
        proveRefused(Integer.MAX_VALUE, 65535);
        proveRefused(1, 65536);
        Check.due("without versions: prove(0, 0)", new ProofMap().prove(0, 0), BAD);
        Check.due("of 60: prove(60, 7)", Sample.ofVersions(60).prove(60, 7), BAD);
    }

    private static void proveRefused(int version, int key) {
        ProofMap x = Sample.ofLongProof();
        String call = "prove(" + version + ", " + key + ")";
        Check.due(call, x.prove(version, key), BAD);
        Check.sameState("after " + call, x, Sample.ofLongProof());
    }

    private static void proveAnew() {
        Check.sentence("Promise 9: The proof of a key in a version is at hand (whatever was done to the last one)");
        ProofMap x = Sample.ofLongProof();
        x.alter(0, 0, -1);
        x.alter(15, 7, -1);
        x.claim(5, 5);
        x.cut(3);
        Check.due("prove(-1, 0)", x.prove(-1, 0), 16);
        Check.sameState("proved anew", x, Sample.ofLongProof());
        x.cut(0);
        x.claim(-1, 0);
        Check.due("prove(-1, 0) after cut(0)", x.prove(-1, 0), 16);
        Check.due("verify(-1, 0)", x.verify(-1, 0), 1);
    }

    private static void proofStays() {
        Check.sentence("Promise 9: The proof is at hand (whatever the map becomes)");
        ProofMap x = Sample.ofLongProof();
        x.put(0, 99);
        x.put(1, 99);
        x.remove(32768);
        x.commit();
        x.back(0);
        Check.due("siblings()", x.siblings(), 16);
        Check.siblingWords("the first", x, 0, Model.one(32768, 12));
        Check.siblingWords("the last", x, 15, Model.one(1, 11));
        Check.proofEnd("the end", x, 1, 0, 10);
    }

    private static void siblingsFromNoneToMost() {
        Check.sentence("Promise 10: How many siblings the proof at hand has (none to 16)");
        Check.due("new", new ProofMap().siblings(), 0);
        for (int bit = 0; bit < 16; bit++) {
            ProofMap x = new ProofMap();
            x.put(0, 1);
            x.put(32768 >>> bit, 2);
            Check.due("before prove", x.siblings(), 0);
            x.prove(-1, 0);
            Check.due("alike at " + bit + " bits", x.siblings(), bit + 1);
        }
    }

    private static void siblingsAfterCut() {
        Check.sentence("Promise 10: How many siblings the proof at hand has (when some are cut)");
        ProofMap x = Sample.ofLongProof();
        x.cut(17);
        Check.due("after cut(17)", x.siblings(), 16);
        x.cut(1);
        Check.due("after cut(1)", x.siblings(), 1);
        x.cut(0);
        Check.due("after cut(0)", x.siblings(), 0);
    }

    private static void siblingFirstAndLast() {
        Check.sentence("Promise 11: Word i of sibling k of the proof at hand (the first and the last)");
        ProofMap x = Sample.ofLongProof();
        int[] first = Model.one(32768, 12);
        int[] last = Model.one(1, 11);
        Check.due("sibling(0, 0)", x.sibling(0, 0), first[0]);
        Check.due("sibling(0, 7)", x.sibling(0, 7), first[7]);
        Check.due("sibling(15, 0)", x.sibling(15, 0), last[0]);
        Check.due("sibling(15, 7)", x.sibling(15, 7), last[7]);
    }

    private static void siblingWithoutAny() {
        Check.sentence("Promise 11: 0 when there is none such (a proof without siblings)");
        ProofMap x = new ProofMap();
        Check.siblingWords("new", x, 0, NOTHING);
        x.put(1, 1);
        x.prove(-1, 1);
        Check.siblingWords("one entry", x, 0, NOTHING);
    }

    private static void siblingTooSmall() {
        Check.sentence("Promise 11: 0 when there is none such (k too small)");
        ProofMap x = Sample.ofLongProof();
        for (int k : TOO_SMALL_SIBLINGS) {
            Check.siblingWords("none such", x, k, NOTHING);
            Check.due("neither: sibling(" + k + ", -1)", x.sibling(k, -1), 0);
        }
    }

    private static void siblingTooLarge() {
        Check.sentence("Promise 11: 0 when there is none such (k too large)");
        ProofMap x = Sample.ofLongProof();
        for (int k : TOO_LARGE_SIBLINGS) {
            Check.siblingWords("none such", x, k, NOTHING);
            Check.due("neither: sibling(" + k + ", 8)", x.sibling(k, 8), 0);
        }
    }

    private static void siblingWordTooSmall() {
        Check.sentence("Promise 11: 0 when there is none such (i too small)");
        ProofMap x = Sample.ofLongProof();
        for (int i : Sample.TOO_SMALL_WORDS) {
            Check.due("sibling(0, " + i + ")", x.sibling(0, i), 0);
            Check.due("sibling(1, " + i + ")", x.sibling(1, i), 0);
            Check.due("sibling(15, " + i + ")", x.sibling(15, i), 0);
        }
    }

    private static void siblingWordTooLarge() {
        Check.sentence("Promise 11: 0 when there is none such (i too large)");
        ProofMap x = Sample.ofLongProof();
        for (int i : Sample.TOO_LARGE_WORDS) {
            Check.due("sibling(0, " + i + ")", x.sibling(0, i), 0);
            Check.due("sibling(14, " + i + ")", x.sibling(14, i), 0);
            Check.due("sibling(15, " + i + ")", x.sibling(15, i), 0);
        }
    }

    private static void siblingOfAnEarlierProof() {
        Check.sentence("Promise 11: 0 when there is none such (though an earlier proof had one)");
        ProofMap x = Sample.ofLongProof();
        Check.due("prove(-1, 65535)", x.prove(-1, 65535), 1);
        Check.siblingWords("one behind the last", x, 1, NOTHING);
        Check.siblingWords("where the earlier one had its last", x, 15, NOTHING);
        x.put(16384, 5);
        x.put(49152, 6);
        Check.due("prove(-1, 65535)", x.prove(-1, 65535), 2);
        Check.siblingWords("the last", x, 1, Model.one(32768, 12));
        x.prove(0, 65535);
        Check.siblingWords("one behind the last", x, 1, NOTHING);
    }

    private static void siblingThatWasCut() {
        Check.sentence("Promise 11: 0 when there is none such (cut off)");
        ProofMap x = Sample.ofLongProof();
        x.cut(15);
        Check.siblingWords("cut(15)", x, 15, NOTHING);
        Check.siblingWords("cut(15), the first", x, 0, Model.one(32768, 12));
        x.cut(0);
        Check.siblingWords("cut(0)", x, 0, NOTHING);
    }

    private static void endOfAnEntry() {
        Check.sentence("Promise 12: what = 0: 1 for an entry; 1, 2: that entry's key, value");
        ProofMap x = new ProofMap();
        x.put(0, 0);
        x.prove(-1, 0);
        Check.proofEnd("key and value 0", x, 1, 0, 0);
        x.put(0, -1);
        x.prove(-1, 0);
        Check.proofEnd("a value like BAD", x, 1, 0, -1);
        x.remove(0);
        x.put(65535, Integer.MIN_VALUE);
        x.prove(-1, 0);
        Check.proofEnd("the last key, the lowest value", x, 1, 65535, Integer.MIN_VALUE);
        x.put(65535, Integer.MAX_VALUE);
        x.prove(-1, 0);
        Check.proofEnd("the last key, the highest value", x, 1, 65535, Integer.MAX_VALUE);
    }

    private static void endWithoutOne() {
        Check.sentence("Promise 12: else 0; 0 without one");
        ProofMap x = new ProofMap();
        Check.proofEnd("new", x, 0, 0, 0);
        x.put(5, 6);
        x.prove(-1, 5);
        x.remove(5);
        x.prove(-1, 5);
        Check.proofEnd("after a proof that had one", x, 0, 0, 0);
        x.claim(7, 8);
        x.claim(-1, 9);
        Check.proofEnd("after claims", x, 0, 0, 0);
    }

    private static void endTooSmall() {
        Check.sentence("Promise 12: BAD (too small)");
        int[] none = {-1, -2, Integer.MIN_VALUE};
        for (int what : none) {
            Check.due("an entry: end(" + what + ")", Sample.ofLongProof().end(what), BAD);
            Check.due("nothing: end(" + what + ")", new ProofMap().end(what), BAD);
        }
    }

    private static void endTooLarge() {
        Check.sentence("Promise 12: BAD (too large)");
        int[] none = {3, 4, 256, Integer.MAX_VALUE};
        for (int what : none) {
            Check.due("an entry: end(" + what + ")", Sample.ofLongProof().end(what), BAD);
            Check.due("nothing: end(" + what + ")", new ProofMap().end(what), BAD);
        }
    }

    private static void alterFirstAndLast() {
        Check.sentence("Promise 13: Word i of sibling k is xor mask: 1 (the first and the last)");
        int[] ks = {0, 15};
        int[] is = {0, 7};
        for (int k : ks) {
            for (int i : is) {
                ProofMap x = Sample.ofLongProof();
                int before = x.sibling(k, i);
                Check.due("alter(" + k + ", " + i + ", 5)", x.alter(k, i, 5), 1);
                Check.due("sibling(" + k + ", " + i + ")", x.sibling(k, i), before ^ 5);
            }
        }
    }

    private static void alterByAnyMask() {
        Check.sentence("Promise 13: is xor mask (any mask)");
        int[] masks = {0, 1, -1, Integer.MIN_VALUE, Integer.MAX_VALUE};
        for (int mask : masks) {
            ProofMap x = Sample.ofLongProof();
            int before = x.sibling(15, 3);
            Check.due("alter(15, 3, " + mask + ")", x.alter(15, 3, mask), 1);
            Check.due("sibling(15, 3) xor " + mask, x.sibling(15, 3), before ^ mask);
            Check.due("alter(15, 3, " + mask + ") again", x.alter(15, 3, mask), 1);
            Check.due("sibling(15, 3) as before", x.sibling(15, 3), before);
            Check.due("alter(1, 0, " + mask + ") of 0", x.alter(1, 0, mask), 1);
            Check.due("sibling(1, 0)", x.sibling(1, 0), mask);
        }
    }

    private static void alterThatWordAlone() {
        Check.sentence("Promise 13: Word i of sibling k (and no other)");
        ProofMap x = Sample.ofLongProof();
        ProofMap untouched = Sample.ofLongProof();
        x.alter(2, 7, -1);
        Check.due("sibling(2, 7)", x.sibling(2, 7), -1);
        x.alter(2, 7, -1);
        Check.sameState("altered twice", x, untouched);
        ProofMap y = Sample.ofLongProof();
        y.alter(2, 7, -1);
        for (int k = 0; k < 16; k++) {
            for (int i = 0; i < 8; i++) {
                int want = k == 2 && i == 7 ? -1 : untouched.sibling(k, i);
                Check.due("sibling(" + k + ", " + i + ")", y.sibling(k, i), want);
            }
        }
    }

    private static void alterTheProofAlone() {
        Check.sentence("Promise 13: Word i of sibling k (not of the map's or a version's digests)");
        ProofMap x = Sample.ofLongProof();
        x.alter(0, 0, -1);
        x.alter(1, 0, -1);
        x.alter(15, 0, -1);
        x.prove(-1, 0);
        Check.sameState("proved anew", x, Sample.ofLongProof());
        x.prove(0, 0);
        Check.siblingWords("nothing is still 0", x, 0, NOTHING);
        Check.siblingWords("nothing is still 0", x, 1, NOTHING);
        Check.due("verify(0, 0)", x.verify(0, 0), 1);
    }

    private static void alterWithoutAny() {
        Check.sentence("Promise 13: BAD (a proof without siblings)");
        ProofMap x = new ProofMap();
        Check.due("new: alter(0, 0, 1)", x.alter(0, 0, 1), BAD);
        Check.sameState("after BAD", x, new ProofMap());
        x.put(1, 1);
        x.prove(-1, 1);
        Check.due("one entry: alter(0, 0, 1)", x.alter(0, 0, 1), BAD);
        Check.due("one entry: verify(-1, 1)", x.verify(-1, 1), 1);
    }

    private static void alterTooSmall() {
        Check.sentence("Promise 13: BAD (k too small)");
        for (int k : TOO_SMALL_SIBLINGS) {
            alterRefused(k, 0);
            alterRefused(k, -1);
        }
    }

    private static void alterTooLarge() {
        Check.sentence("Promise 13: BAD (k too large)");
        for (int k : TOO_LARGE_SIBLINGS) {
            alterRefused(k, 0);
            alterRefused(k, 8);
        }
    }

    private static void alterWordTooSmall() {
        Check.sentence("Promise 13: BAD (i too small)");
        for (int i : Sample.TOO_SMALL_WORDS) {
            alterRefused(0, i);
            alterRefused(1, i);
            alterRefused(15, i);
        }
    }

    private static void alterWordTooLarge() {
        Check.sentence("Promise 13: BAD (i too large)");
        for (int i : Sample.TOO_LARGE_WORDS) {
            alterRefused(0, i);
            alterRefused(14, i);
            alterRefused(15, i);
        }
    }

    private static void alterRefused(int k, int i) {
        ProofMap x = Sample.ofLongProof();
        String call = "alter(" + k + ", " + i + ", -1)";
        Check.due(call, x.alter(k, i, -1), BAD);
        Check.due("alter(" + k + ", " + i + ", 0)", x.alter(k, i, 0), BAD);
        Check.sameState("after " + call, x, Sample.ofLongProof());
    }

    private static void alterOfWhatWasCut() {
        Check.sentence("Promise 13: BAD (cut off, or an earlier proof's)");
        ProofMap x = Sample.ofLongProof();
        x.cut(15);
        Check.due("cut(15): alter(15, 0, 1)", x.alter(15, 0, 1), BAD);
        Check.due("cut(15): alter(14, 0, 1)", x.alter(14, 0, 1), 1);
        x.prove(-1, 65535);
        Check.due("one sibling: alter(1, 0, 1)", x.alter(1, 0, 1), BAD);
        Check.due("one sibling: alter(0, 0, 1)", x.alter(0, 0, 1), 1);
    }

    private static void claimFirstAndLast() {
        Check.sentence("Promise 14: Its end is an entry from now on: 1 (the first key and the last)");
        ProofMap x = new ProofMap();
        Check.due("claim(0, MIN)", x.claim(0, Integer.MIN_VALUE), 1);
        Check.proofEnd("key 0", x, 1, 0, Integer.MIN_VALUE);
        Check.due("claim(65535, MAX)", x.claim(65535, Integer.MAX_VALUE), 1);
        Check.proofEnd("key 65535", x, 1, 65535, Integer.MAX_VALUE);
        x.put(3, 3);
        Check.proofEnd("after put", x, 1, 65535, Integer.MAX_VALUE);
    }

    private static void claimNothing() {
        Check.sentence("Promise 14: (or, with key -1, nothing) from now on: 1");
        ProofMap x = Sample.ofLongProof();
        Check.due("claim(-1, 5)", x.claim(-1, 5), 1);
        Check.proofEnd("nothing", x, 0, 0, 0);
        Check.due("siblings()", x.siblings(), 16);
        Check.due("claim(-1, 0) again", x.claim(-1, 0), 1);
        Check.proofEnd("nothing again", x, 0, 0, 0);
        ProofMap y = new ProofMap();
        Check.due("new: claim(-1, 5)", y.claim(-1, 5), 1);
        Check.sameState("new", y, new ProofMap());
    }

    private static void claimTooSmall() {
        Check.sentence("Promise 14: BAD for another key (too small)");
        int[] keys = {-2, -3, -65535, -65536, Integer.MIN_VALUE};
        for (int key : keys) {
            claimRefused(key);
        }
    }

    private static void claimTooLarge() {
        Check.sentence("Promise 14: BAD for another key (too large)");
        for (int key : Sample.TOO_LARGE_KEYS) {
            claimRefused(key);
        }
    }

    private static void claimRefused(int key) {
        ProofMap x = Sample.ofLongProof();
        Check.due("claim(" + key + ", 5)", x.claim(key, 5), BAD);
        Check.sameState("after claim(" + key + ", 5)", x, Sample.ofLongProof());
        ProofMap y = new ProofMap();
        Check.due("new: claim(" + key + ", 5)", y.claim(key, 5), BAD);
        Check.sameState("new", y, new ProofMap());
    }

    private static void claimTheEndAlone() {
        Check.sentence("Promise 14: Its end (and nothing else)");
        ProofMap x = Sample.ofLongProof();
        x.claim(1, 5);
        Check.due("the map: get(-1, 1)", x.get(-1, 1), 11);
        Check.due("the map: size(-1)", x.size(-1), 3);
        x.claim(0, 10);
        Check.sameState("claimed as it was", x, Sample.ofLongProof());
    }

    private static void cutToNone() {
        Check.sentence("Promise 15: It has only so many siblings (none): 1");
        ProofMap x = Sample.ofLongProof();
        Check.due("cut(0)", x.cut(0), 1);
        Check.due("siblings()", x.siblings(), 0);
        Check.proofEnd("the end stays", x, 1, 0, 10);
        Check.due("cut(0) again", x.cut(0), 1);
        ProofMap y = new ProofMap();
        Check.due("new: cut(0)", y.cut(0), 1);
        Check.sameState("new", y, new ProofMap());
    }

    private static void cutToAll() {
        Check.sentence("Promise 15: It has only so many siblings (all that it has): 1");
        ProofMap x = Sample.ofLongProof();
        Check.due("cut(16)", x.cut(16), 1);
        Check.sameState("after cut(16)", x, Sample.ofLongProof());
        x.prove(-1, 65535);
        Check.due("cut(1) of one", x.cut(1), 1);
        Check.due("siblings()", x.siblings(), 1);
    }

    private static void cutToAllButOne() {
        Check.sentence("Promise 15: It has only so many siblings (all but one): 1");
        ProofMap x = Sample.ofLongProof();
        for (int many = 15; many >= 0; many--) {
            Check.due("cut(" + many + ")", x.cut(many), 1);
            Check.due("siblings()", x.siblings(), many);
        }
    }

    private static void cutTheLastOnes() {
        Check.sentence("Promise 15: the first ones");
        ProofMap x = Sample.ofLongProof();
        x.alter(1, 0, 77);
        x.cut(2);
        Check.siblingWords("the first", x, 0, Model.one(32768, 12));
        Check.due("the second", x.sibling(1, 0), 77);
        Check.siblingWords("the third has gone", x, 2, NOTHING);
        Check.siblingWords("the last has gone", x, 15, NOTHING);
    }

    private static void cutTooMany() {
        Check.sentence("Promise 15: BAD when it has not so many");
        int[] tooMany = {17, 18, 32, Integer.MAX_VALUE};
        for (int many : tooMany) {
            ProofMap x = Sample.ofLongProof();
            Check.due("cut(" + many + ")", x.cut(many), BAD);
            Check.sameState("after cut(" + many + ")", x, Sample.ofLongProof());
        }
        ProofMap x = Sample.ofLongProof();
        x.cut(3);
        Check.due("cut(4) of 3", x.cut(4), BAD);
        Check.due("cut(16) of 3", x.cut(16), BAD);
        Check.due("siblings()", x.siblings(), 3);
        ProofMap y = new ProofMap();
        Check.due("new: cut(1)", y.cut(1), BAD);
        Check.due("new: cut(16)", y.cut(16), BAD);
        Check.sameState("new", y, new ProofMap());
    }

    private static void cutTooFew() {
        Check.sentence("Promise 15: BAD when it has not so many (less than none)");
        int[] tooFew = {-1, -2, -16, Integer.MIN_VALUE};
        for (int many : tooFew) {
            ProofMap x = Sample.ofLongProof();
            Check.due("cut(" + many + ")", x.cut(many), BAD);
            Check.sameState("after cut(" + many + ")", x, Sample.ofLongProof());
            Check.due("new: cut(" + many + ")", new ProofMap().cut(many), BAD);
        }
    }

    private static void verifyThere() {
        Check.sentence("Promise 16: 1 when it SAYS that the entry is there");
        for (int bit = 0; bit < 16; bit++) {
            ProofMap x = new ProofMap();
            int other = 32768 >>> bit;
            x.put(0, 0);
            x.put(other, -1);
            x.prove(-1, 0);
            Check.due((bit + 1) + " siblings: verify(-1, 0)", x.verify(-1, 0), 1);
            x.prove(-1, other);
            Check.due((bit + 1) + " siblings: verify(-1, " + other + ")", x.verify(-1, other), 1);
        }
        ProofMap x = new ProofMap();
        x.put(65535, 0);
        x.prove(-1, 65535);
        Check.due("no siblings: verify(-1, 65535)", x.verify(-1, 65535), 1);
    }

    private static void verifyNotThere() {
        Check.sentence("Promise 16: 0 that it is not");
        ProofMap x = new ProofMap();
        Check.due("new: verify(-1, 65535)", x.verify(-1, 65535), 0);
        x.put(0, 0);
        x.prove(-1, 1);
        Check.due("another entry, no siblings: verify(-1, 1)", x.verify(-1, 1), 0);
        x.put(32768, 0);
        x.prove(-1, 1);
        Check.due("another entry, one sibling: verify(-1, 1)", x.verify(-1, 1), 0);
        x.put(2, 0);
        x.prove(-1, 1);
        Check.due("another entry, 15 siblings: verify(-1, 1)", x.verify(-1, 1), 0);
        x.put(1, 0);
        x.remove(2);
        x.prove(-1, 3);
        Check.due("nothing, 15 siblings: verify(-1, 3)", x.verify(-1, 3), 0);
    }

    private static void verifyEachWord() {
        Check.sentence("Promise 16: NO when they do not (each word of each sibling counts)");
        ProofMap x = Sample.ofLongProof();
        for (int k = 0; k < 16; k++) {
            for (int i = k & 1; i < 8; i += 2) {
                int mask = 1 << (k * 2 + i & 31);
                x.alter(k, i, mask);
                Check.due("alter(" + k + ", " + i + ", " + mask + "): verify", x.verify(-1, 0), NO);
                x.alter(k, i, mask);
            }
        }
        Check.due("as it was: verify", x.verify(-1, 0), 1);
    }

    private static void verifyCut() {
        Check.sentence("Promise 16: NO when they do not (a sibling less)");
        ProofMap x = Sample.ofLongProof();
        for (int many = 15; many >= 0; many--) {
            x.cut(many);
            Check.due("cut(" + many + "): verify(-1, 0)", x.verify(-1, 0), NO);
        }
        x.remove(1);
        x.remove(32768);
        Check.due("no siblings, as due for one entry", x.verify(-1, 0), 1);
    }

    private static void verifyClaimed() {
        Check.sentence("Promise 16: NO when they do not (another end)");
        ProofMap x = Sample.ofLongProof();
        x.claim(0, 10 ^ Integer.MIN_VALUE);
        Check.due("the highest bit of the value", x.verify(-1, 0), NO);
        x.claim(0, 11);
        Check.due("the lowest bit of the value", x.verify(-1, 0), NO);
        x.claim(1, 11);
        Check.due("the neighbour", x.verify(-1, 0), NO);
        x.claim(-1, 0);
        Check.due("nothing", x.verify(-1, 0), NO);
        ProofMap y = new ProofMap();
        y.claim(0, 0);
        Check.due("an entry, of an empty map", y.verify(-1, 0), NO);
    }

    private static void verifyFirstAndLastVersion() {
        Check.sentence("Promise 16: a version's digest (the first, the last, and -1)");
        ProofMap x = Sample.ofVersions(60);
        x.put(7, -1);
        int[] versions = {0, 59, -1};
        for (int proved : versions) {
            x.prove(proved, 7);
            for (int judged : versions) {
                int want = proved == judged ? 1 : NO;
                Check.due("of " + proved + ": verify(" + judged + ", 7)", x.verify(judged, 7), want);
            }
        }
    }

    private static void verifyKeyTooSmall() {
        Check.sentence("Promise 16: BAD (a key too small)");
        for (int key : Sample.TOO_SMALL_KEYS) {
            verifyRefused(-1, key);
            verifyRefused(0, key);
        }
    }

    private static void verifyKeyTooLarge() {
        Check.sentence("Promise 16: BAD (a key too large)");
        for (int key : Sample.TOO_LARGE_KEYS) {
            verifyRefused(-1, key);
            verifyRefused(0, key);
        }
    }

    private static void verifyVersionTooSmall() {
        Check.sentence("Promise 16: BAD (a version too small)");
        verifyRefused(-2, 0);
        verifyRefused(-60, 0);
        verifyRefused(Integer.MIN_VALUE, 65535);
        verifyRefused(-2, -1);
        Check.due("of 60: verify(-2, 7)", Sample.ofVersions(60).verify(-2, 7), BAD);
    }

    private static void verifyVersionTooLarge() {
        Check.sentence("Promise 16: BAD (a version too large)");
        verifyRefused(1, 0);
        verifyRefused(59, 0);
        verifyRefused(60, 0);
        verifyRefused(Integer.MAX_VALUE, 65535);
        verifyRefused(1, 65536);
        Check.due("without versions: verify(0, 0)", new ProofMap().verify(0, 0), BAD);
        Check.due("of 60: verify(60, 7)", Sample.ofVersions(60).verify(60, 7), BAD);
    }

    /** By a proof that would fit, by one that would not, and by a new object's. */
    private static void verifyRefused(int version, int key) {
        ProofMap x = Sample.ofLongProof();
        String call = "verify(" + version + ", " + key + ")";
        Check.due(call, x.verify(version, key), BAD);
        Check.sameState("after " + call, x, Sample.ofLongProof());
        x.claim(9, 9);
        Check.due(call + " of what does not fit", x.verify(version, key), BAD);
        ProofMap y = new ProofMap();
        y.commit();
        Check.due(call + " of nothing", y.verify(version, key), BAD);
    }

    private static void verifyChangesNothing() {
        Check.sentence("Promise 16: Whether the proof at hand FITs (it is only asked)");
        ProofMap x = Sample.ofLongProof();
        Check.due("1", x.verify(-1, 0), 1);
        Check.due("NO by the key", x.verify(-1, 65535), NO);
        Check.due("NO by the version", x.verify(0, 0), NO);
        Check.sameState("after verify", x, Sample.ofLongProof());
        Check.due("1 again", x.verify(-1, 0), 1);
    }
}
