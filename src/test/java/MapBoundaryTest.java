/** The boundaries that promises 1 to 8, 17 and 18 name, a test for each sentence. */
final class MapBoundaryTest {
    private static final int BAD = -1;
    private static final int FULL = -3;
    private static final long NONE = 9223372036854775807L;

    private MapBoundaryTest() {
    }

    public static void main(String[] args) {
        newWithoutEntries();
        newWithoutVersions();
        newWithoutSiblings();
        newEndsWithNothing();
        putComes();
        putThere();
        putThereWithTheSameValue();
        putTooSmall();
        putTooLarge();
        put300th();
        putFull();
        putThereWhenFull();
        putBadWhenFull();
        putWhenNoLongerFull();
        putFullAfterBack();
        removeGoes();
        removeTheOnlyOne();
        removeNone();
        removeTooSmall();
        removeTooLarge();
        getAsLong();
        getNone();
        getNoSuchKey();
        getNoSuchVersion();
        getNeither();
        sizeFromNoneToMost();
        sizeTooSmall();
        sizeTooLarge();
        commitFirst();
        commitOfNothing();
        commitOfTheSame();
        commitLast();
        commitFull();
        commitAfterBack();
        commitFullAfterBack();
        backFromNoneToMost();
        backToFirstAndLast();
        backToNow();
        backTooSmall();
        backTooLarge();
        backLeavesVersions();
        wordFirstAndLast();
        wordTooSmall();
        wordTooLarge();
        wordOfNoVersion();
        alikeNone();
        alikeAll();
        alikeEachNumber();
        alikeTooSmall();
        alikeTooLarge();
        versionsFromNoneToMost();
        versionsWhenRefused();
        Check.end();
    }

    private static void newWithoutEntries() {
        Check.sentence("Promise 1: No entries");
        ProofMap x = new ProofMap();
        Check.due("size(-1)", x.size(-1), 0);
        Check.due("get(-1, 0)", x.get(-1, 0), NONE);
        Check.due("get(-1, 65535)", x.get(-1, 65535), NONE);
        Check.due("remove(0)", x.remove(0), 0);
        Check.digest("new", x, -1, new int[8]);
    }

    private static void newWithoutVersions() {
        Check.sentence("Promise 1: no versions");
        ProofMap x = new ProofMap();
        Check.due("versions()", x.versions(), 0);
        Check.due("size(0)", x.size(0), BAD);
        Check.due("get(0, 0)", x.get(0, 0), NONE);
        Check.due("back(0)", x.back(0), BAD);
        Check.due("prove(0, 0)", x.prove(0, 0), BAD);
        Check.due("verify(0, 0)", x.verify(0, 0), BAD);
        Check.due("word(0, 0)", x.word(0, 0), 0);
    }

    private static void newWithoutSiblings() {
        Check.sentence("Promise 1: the proof at hand has no siblings");
        ProofMap x = new ProofMap();
        Check.due("siblings()", x.siblings(), 0);
        Check.due("sibling(0, 0)", x.sibling(0, 0), 0);
        Check.due("alter(0, 0, 1)", x.alter(0, 0, 1), BAD);
        Check.due("cut(1)", x.cut(1), BAD);
        Check.due("cut(0)", x.cut(0), 1);
    }

    private static void newEndsWithNothing() {
        Check.sentence("Promise 1: and ends with nothing");
        ProofMap x = new ProofMap();
        Check.proofEnd("new", x, 0, 0, 0);
        Check.due("verify(-1, 0)", x.verify(-1, 0), 0);
        x.put(0, 0);
        Check.due("verify(-1, 0) with an entry 0", x.verify(-1, 0), -2);
    }

    private static void putComes() {
        Check.sentence("Promise 2: An entry comes: 1");
        ProofMap x = new ProofMap();
        Check.due("put(0, -1)", x.put(0, -1), 1);
        Check.due("put(65535, 0)", x.put(65535, 0), 1);
        Check.due("put(1, 1), alike with 0 at 15 bits", x.put(1, 1), 1);
        Check.due("size(-1)", x.size(-1), 3);
        x.remove(1);
        Check.due("put(1, 1), gone before", x.put(1, 1), 1);
    }

    private static void putThere() {
        Check.sentence("Promise 2: or its value becomes another one: 0 when the key was there");
        ProofMap x = new ProofMap();
        x.put(0, 1);
        x.put(1, 2);
        x.put(65535, 3);
        Check.due("put(0, MIN)", x.put(0, Integer.MIN_VALUE), 0);
        Check.due("put(65535, MAX)", x.put(65535, Integer.MAX_VALUE), 0);
        Check.due("get(-1, 0)", x.get(-1, 0), Integer.MIN_VALUE);
        Check.due("get(-1, 1)", x.get(-1, 1), 2);
        Check.due("get(-1, 65535)", x.get(-1, 65535), Integer.MAX_VALUE);
        Check.due("size(-1)", x.size(-1), 3);
    }

    private static void putThereWithTheSameValue() {
        Check.sentence("Promise 2: 0 when the key was there (with that value too)");
        ProofMap x = Sample.ofLongProof();
        Check.due("put(1, 11)", x.put(1, 11), 0);
        Check.sameState("after put(1, 11)", x, Sample.ofLongProof());
    }

    private static void putTooSmall() {
        Check.sentence("Promise 2: BAD (a key too small)");
        for (int key : Sample.TOO_SMALL_KEYS) {
            ProofMap x = Sample.ofLongProof();
            Check.due("put(" + key + ", 1)", x.put(key, 1), BAD);
            Check.sameState("after put(" + key + ", 1)", x, Sample.ofLongProof());
        }
    }

    private static void putTooLarge() {
        Check.sentence("Promise 2: BAD (a key too large)");
        for (int key : Sample.TOO_LARGE_KEYS) {
            ProofMap x = Sample.ofLongProof();
            Check.due("put(" + key + ", 1)", x.put(key, 1), BAD);
            Check.sameState("after put(" + key + ", 1)", x, Sample.ofLongProof());
        }
    }

    private static void put300th() {
        Check.sentence("Promise 2: FULL when there would be 301 (not 300)");
        ProofMap x = Sample.ofEntries(299);
        Check.due("the 300th", x.put(1, 9), 1);
        Check.due("size(-1)", x.size(-1), 300);
        Check.due("get(-1, 1)", x.get(-1, 1), 9);
    }

    private static void putFull() {
        Check.sentence("Promise 2: FULL when there would be 301");
        ProofMap x = Sample.ofEntries(300);
        Check.due("put(1, 9)", x.put(1, 9), FULL);
        Check.due("put(65535, 9)", x.put(65535, 9), FULL);
        Check.due("put(1, 9) again", x.put(1, 9), FULL);
        Check.sameState("after FULL", x, Sample.ofEntries(300));
        Check.due("get(-1, 1)", x.get(-1, 1), NONE);
        Check.due("get(-1, 65535)", x.get(-1, 65535), NONE);
    }

    private static void putThereWhenFull() {
        Check.sentence("Promise 2: FULL when there would be 301 (not when the key was there)");
        ProofMap x = Sample.ofEntries(300);
        Check.due("put(0, -5)", x.put(0, -5), 0);
        Check.due("put(63089, -6)", x.put(63089, -6), 0);
        Check.due("get(-1, 0)", x.get(-1, 0), -5);
        Check.due("get(-1, 63089)", x.get(-1, 63089), -6);
        Check.due("size(-1)", x.size(-1), 300);
    }

    private static void putBadWhenFull() {
        Check.sentence("Promise 2: BAD (when full too: there would not be 301)");
        ProofMap x = Sample.ofEntries(300);
        Check.due("put(-1, 0)", x.put(-1, 0), BAD);
        Check.due("put(65536, 0)", x.put(65536, 0), BAD);
        Check.sameState("after BAD", x, Sample.ofEntries(300));
    }

    private static void putWhenNoLongerFull() {
        Check.sentence("Promise 2: FULL when there would be 301 (not after one has gone)");
        ProofMap x = Sample.ofEntries(300);
        Check.due("put(1, 1)", x.put(1, 1), FULL);
        Check.due("remove(211)", x.remove(211), 1);
        Check.due("put(1, 1) after remove", x.put(1, 1), 1);
        Check.due("put(211, 1) after that", x.put(211, 1), FULL);
    }

    private static void putFullAfterBack() {
        Check.sentence("Promise 2: FULL when there would be 301 (in a map that is back)");
        ProofMap x = Sample.ofEntries(299);
        x.commit();
        x.put(1, 1);
        x.commit();
        x.back(0);
        Check.due("back to 299: put(2, 2)", x.put(2, 2), 1);
        Check.due("back to 299: put(3, 3)", x.put(3, 3), FULL);
        x.remove(0);
        x.back(1);
        Check.due("back to 300: put(2, 2)", x.put(2, 2), FULL);
    }

    private static void removeGoes() {
        Check.sentence("Promise 3: An entry goes: 1");
        ProofMap x = Sample.ofEntries(300);
        Check.due("remove(0)", x.remove(0), 1);
        Check.due("remove(63089)", x.remove(63089), 1);
        Check.due("size(-1)", x.size(-1), 298);
        Check.due("get(-1, 0)", x.get(-1, 0), NONE);
        Check.due("get(-1, 63089)", x.get(-1, 63089), NONE);
        Check.due("get(-1, 211) stays", x.get(-1, 211), 1);
        ProofMap y = new ProofMap();
        y.put(65534, 1);
        y.put(65535, 2);
        Check.due("remove(65535) beside 65534", y.remove(65535), 1);
        Check.due("get(-1, 65534) stays", y.get(-1, 65534), 1);
    }

    private static void removeTheOnlyOne() {
        Check.sentence("Promise 3: An entry goes (the only one)");
        int[] keys = {0, 65535};
        for (int key : keys) {
            ProofMap x = new ProofMap();
            x.put(key, 1);
            x.commit();
            Check.due("remove(" + key + ")", x.remove(key), 1);
            Check.due("size(-1)", x.size(-1), 0);
            Check.digest("empty", x, -1, new int[8]);
            Check.due("the version stays", x.get(0, key), 1);
        }
    }

    private static void removeNone() {
        Check.sentence("Promise 3: 0 when there is none");
        ProofMap empty = new ProofMap();
        Check.due("empty: remove(0)", empty.remove(0), 0);
        Check.due("empty: remove(65535)", empty.remove(65535), 0);
        Check.sameState("empty", empty, new ProofMap());
        ProofMap x = Sample.ofLongProof();
        Check.due("remove(2)", x.remove(2), 0);
        Check.due("remove(32769), alike with 32768 at 15 bits", x.remove(32769), 0);
        Check.due("remove(65535)", x.remove(65535), 0);
        Check.sameState("after 0", x, Sample.ofLongProof());
        x.remove(1);
        Check.due("remove(1) again", x.remove(1), 0);
        Check.due("remove(1), in a version only: get(0, 1)", x.get(0, 1), 11);
    }

    private static void removeTooSmall() {
        Check.sentence("Promise 3: BAD (a key too small)");
        for (int key : Sample.TOO_SMALL_KEYS) {
            ProofMap x = Sample.ofLongProof();
            Check.due("remove(" + key + ")", x.remove(key), BAD);
            Check.sameState("after remove(" + key + ")", x, Sample.ofLongProof());
            Check.due("empty: remove(" + key + ")", new ProofMap().remove(key), BAD);
        }
    }

    private static void removeTooLarge() {
        Check.sentence("Promise 3: BAD (a key too large)");
        for (int key : Sample.TOO_LARGE_KEYS) {
            ProofMap x = Sample.ofLongProof();
            Check.due("remove(" + key + ")", x.remove(key), BAD);
            Check.sameState("after remove(" + key + ")", x, Sample.ofLongProof());
            Check.due("empty: remove(" + key + ")", new ProofMap().remove(key), BAD);
        }
    }

    private static void getAsLong() {
        Check.sentence("Promise 4: The value of a key in a version: as a long");
        ProofMap x = new ProofMap();
        int[] values = {Integer.MIN_VALUE, -3, -2, -1, 0, Integer.MAX_VALUE};
        for (int i = 0; i < values.length; i++) {
            x.put(i * 13107, values[i]);
        }
        x.commit();
        for (int i = 0; i < values.length; i++) {
            Check.due("get(-1, " + i * 13107 + ")", x.get(-1, i * 13107), (long) values[i]);
            Check.due("get(0, " + i * 13107 + ")", x.get(0, i * 13107), (long) values[i]);
        }
    }

    private static void getNone() {
        Check.sentence("Promise 4: 9223372036854775807 when there is none");
        ProofMap x = new ProofMap();
        Check.due("empty: get(-1, 0)", x.get(-1, 0), NONE);
        x.commit();
        Check.due("empty: get(0, 65535)", x.get(0, 65535), NONE);
        x.put(32768, 5);
        Check.due("one entry: get(-1, 0)", x.get(-1, 0), NONE);
        Check.due("one entry, alike at 15 bits: get(-1, 32769)", x.get(-1, 32769), NONE);
        Check.due("came later: get(0, 32768)", x.get(0, 32768), NONE);
        x.put(0, 6);
        Check.due("two entries: get(-1, 65535)", x.get(-1, 65535), NONE);
        x.remove(32768);
        Check.due("gone: get(-1, 32768)", x.get(-1, 32768), NONE);
    }

    private static void getNoSuchKey() {
        Check.sentence("Promise 4: 9223372036854775807 when there is no such key");
        ProofMap x = new ProofMap();
        for (int i = 0; i < 16; i++) {
            x.put(i, i);
            x.put(65535 - i, i);
        }
        x.commit();
        for (int key : Sample.TOO_SMALL_KEYS) {
            Check.due("get(-1, " + key + ")", x.get(-1, key), NONE);
            Check.due("get(0, " + key + ")", x.get(0, key), NONE);
        }
        for (int key : Sample.TOO_LARGE_KEYS) {
            Check.due("get(-1, " + key + ")", x.get(-1, key), NONE);
            Check.due("get(0, " + key + ")", x.get(0, key), NONE);
        }
    }

    private static void getNoSuchVersion() {
        Check.sentence("Promise 4: 9223372036854775807 when there is no such version");
        ProofMap x = Sample.ofVersions(60);
        Check.due("the first: get(0, 7)", x.get(0, 7), 0);
        Check.due("the last: get(59, 7)", x.get(59, 7), 59);
        int[] none = {60, 61, Integer.MAX_VALUE, -2, -61, Integer.MIN_VALUE};
        for (int version : none) {
            Check.due("get(" + version + ", 7)", x.get(version, 7), NONE);
        }
        ProofMap y = Sample.ofVersions(2);
        Check.due("of two: get(1, 7)", y.get(1, 7), 1);
        Check.due("of two: get(2, 7)", y.get(2, 7), NONE);
    }

    private static void getNeither() {
        Check.sentence("Promise 4: 9223372036854775807 when there is no such key or version (neither)");
        ProofMap x = Sample.ofVersions(1);
        Check.due("get(1, 65536)", x.get(1, 65536), NONE);
        Check.due("get(-2, -1)", x.get(-2, -1), NONE);
        Check.due("get(MAX, MIN)", x.get(Integer.MAX_VALUE, Integer.MIN_VALUE), NONE);
        Check.due("get(MIN, MAX)", x.get(Integer.MIN_VALUE, Integer.MAX_VALUE), NONE);
    }

    private static void sizeFromNoneToMost() {
        Check.sentence("Promise 5: How many entries a version has (none to 300)");
        ProofMap x = new ProofMap();
        x.commit();
        x.put(0, 1);
        x.commit();
        for (int i = 1; i < 300; i++) {
            x.put(i * 211, i);
        }
        x.commit();
        x.put(65535, 1);
        x.remove(0);
        Check.due("none: size(0)", x.size(0), 0);
        Check.due("one: size(1)", x.size(1), 1);
        Check.due("300: size(2)", x.size(2), 300);
        Check.due("now: size(-1)", x.size(-1), 299);
    }

    private static void sizeTooSmall() {
        Check.sentence("Promise 5: BAD (a version too small)");
        ProofMap x = Sample.ofVersions(60);
        Check.due("the first: size(0)", x.size(0), 1);
        Check.due("now: size(-1)", x.size(-1), 1);
        Check.due("size(-2)", x.size(-2), BAD);
        Check.due("size(-60)", x.size(-60), BAD);
        Check.due("size(MIN)", x.size(Integer.MIN_VALUE), BAD);
    }

    private static void sizeTooLarge() {
        Check.sentence("Promise 5: BAD (a version too large)");
        Check.due("without versions: size(0)", new ProofMap().size(0), BAD);
        ProofMap one = Sample.ofVersions(1);
        Check.due("of one: size(0)", one.size(0), 1);
        Check.due("of one: size(1)", one.size(1), BAD);
        ProofMap most = Sample.ofVersions(60);
        Check.due("of 60: size(59)", most.size(59), 1);
        Check.due("of 60: size(60)", most.size(60), BAD);
        Check.due("of 60: size(MAX)", most.size(Integer.MAX_VALUE), BAD);
    }

    private static void commitFirst() {
        Check.sentence("Promise 6: The map as it is now is kept: the version (the first)");
        ProofMap x = new ProofMap();
        x.put(3, 30);
        Check.due("commit()", x.commit(), 0);
        x.put(3, 31);
        Check.due("get(0, 3)", x.get(0, 3), 30);
        Check.due("get(-1, 3)", x.get(-1, 3), 31);
    }

    private static void commitOfNothing() {
        Check.sentence("Promise 6: The map as it is now is kept (an empty one)");
        ProofMap x = new ProofMap();
        Check.due("commit()", x.commit(), 0);
        x.put(3, 30);
        Check.due("size(0)", x.size(0), 0);
        Check.due("versions()", x.versions(), 1);
        Check.due("prove(0, 3)", x.prove(0, 3), 0);
        Check.due("verify(0, 3)", x.verify(0, 3), 0);
    }

    private static void commitOfTheSame() {
        Check.sentence("Promise 6: The map as it is now is kept (as another version, though nothing has changed)");
        ProofMap x = new ProofMap();
        x.put(3, 30);
        Check.due("commit()", x.commit(), 0);
        Check.due("commit() again", x.commit(), 1);
        Check.digest("the first", x, 0, Model.one(3, 30));
        Check.digest("the second", x, 1, Model.one(3, 30));
    }

    private static void commitLast() {
        Check.sentence("Promise 6: the version (the 60th)");
        ProofMap x = Sample.ofVersions(59);
        x.put(7, -9);
        Check.due("commit() no. 60", x.commit(), 59);
        Check.due("get(59, 7)", x.get(59, 7), -9);
        Check.due("get(58, 7)", x.get(58, 7), 58);
    }

    private static void commitFull() {
        Check.sentence("Promise 6: FULL");
        ProofMap x = Sample.ofVersions(60);
        ProofMap untouched = Sample.ofVersions(60);
        x.put(7, 60);
        untouched.put(7, 60);
        Check.due("commit() no. 61", x.commit(), FULL);
        Check.due("commit() no. 62", x.commit(), FULL);
        Check.sameState("after FULL", x, untouched);
    }

    private static void commitAfterBack() {
        Check.sentence("Promise 6: The map as it is now is kept: the version (after back, the next number)");
        ProofMap x = Sample.ofVersions(3);
        x.back(0);
        Check.due("commit()", x.commit(), 3);
        Check.due("get(3, 7)", x.get(3, 7), 0);
        Check.due("get(1, 7)", x.get(1, 7), 1);
        Check.due("get(2, 7)", x.get(2, 7), 2);
    }

    private static void commitFullAfterBack() {
        Check.sentence("Promise 6: FULL (after back too)");
        ProofMap x = Sample.ofVersions(60);
        x.back(0);
        Check.due("commit()", x.commit(), FULL);
        Check.due("get(59, 7)", x.get(59, 7), 59);
    }

    private static void backFromNoneToMost() {
        Check.sentence("Promise 7: The map becomes that of a version: how many entries it has (none to 300)");
        ProofMap x = new ProofMap();
        x.commit();
        x.put(0, 5);
        x.commit();
        for (int i = 1; i < 300; i++) {
            x.put(i * 211, i);
        }
        x.commit();
        Check.due("none: back(0)", x.back(0), 0);
        Check.due("none: size(-1)", x.size(-1), 0);
        Check.digest("none", x, -1, new int[8]);
        Check.due("300: back(2)", x.back(2), 300);
        Check.due("300: get(-1, 63089)", x.get(-1, 63089), 299);
        Check.due("one: back(1)", x.back(1), 1);
        Check.digest("one", x, -1, Model.one(0, 5));
        Check.due("back(1) again", x.back(1), 1);
    }

    private static void backToFirstAndLast() {
        Check.sentence("Promise 7: The map becomes that of a version (the first and the last)");
        ProofMap x = Sample.ofVersions(60);
        x.put(8, 8);
        Check.due("back(0)", x.back(0), 1);
        Check.due("get(-1, 7)", x.get(-1, 7), 0);
        Check.due("get(-1, 8)", x.get(-1, 8), NONE);
        Check.due("back(59)", x.back(59), 1);
        Check.due("get(-1, 7)", x.get(-1, 7), 59);
    }

    private static void backToNow() {
        Check.sentence("Promise 7: BAD (also for -1)");
        ProofMap x = Sample.ofLongProof();
        Check.due("back(-1)", x.back(-1), BAD);
        Check.sameState("after back(-1)", x, Sample.ofLongProof());
        Check.due("new: back(-1)", new ProofMap().back(-1), BAD);
    }

    private static void backTooSmall() {
        Check.sentence("Promise 7: BAD (a version too small)");
        int[] none = {-2, -60, Integer.MIN_VALUE};
        for (int version : none) {
            ProofMap x = Sample.ofLongProof();
            Check.due("back(" + version + ")", x.back(version), BAD);
            Check.sameState("after back(" + version + ")", x, Sample.ofLongProof());
        }
    }

    private static void backTooLarge() {
        Check.sentence("Promise 7: BAD (a version too large)");
        int[] none = {1, 2, 59, 60, Integer.MAX_VALUE};
        for (int version : none) {
            ProofMap x = Sample.ofLongProof();
            Check.due("back(" + version + ")", x.back(version), BAD);
            Check.sameState("after back(" + version + ")", x, Sample.ofLongProof());
        }
        Check.due("without versions: back(0)", new ProofMap().back(0), BAD);
        Check.due("of 60: back(60)", Sample.ofVersions(60).back(60), BAD);
    }

    private static void backLeavesVersions() {
        Check.sentence("What it is: versions that stay (also the later ones, and the one that the map is back at)");
        ProofMap x = Sample.ofVersions(3);
        x.back(1);
        x.put(7, -1);
        x.put(8, -1);
        x.remove(7);
        for (int v = 0; v < 3; v++) {
            Check.due("get(" + v + ", 7)", x.get(v, 7), v);
            Check.due("size(" + v + ")", x.size(v), 1);
        }
        Check.due("versions()", x.versions(), 3);
    }

    private static void wordFirstAndLast() {
        Check.sentence("Promise 8: Word i of a version's digest (the first and the last)");
        ProofMap x = Sample.ofVersions(60);
        x.put(7, -1);
        int[] first = Model.one(7, 0);
        int[] last = Model.one(7, 59);
        int[] now = Model.one(7, -1);
        Check.due("word(0, 0)", x.word(0, 0), first[0]);
        Check.due("word(0, 7)", x.word(0, 7), first[7]);
        Check.due("word(59, 0)", x.word(59, 0), last[0]);
        Check.due("word(59, 7)", x.word(59, 7), last[7]);
        Check.due("word(-1, 0)", x.word(-1, 0), now[0]);
        Check.due("word(-1, 7)", x.word(-1, 7), now[7]);
    }

    private static void wordTooSmall() {
        Check.sentence("Promise 8: 0 when there is no such word (too small)");
        ProofMap x = Sample.ofVersions(1);
        for (int i : Sample.TOO_SMALL_WORDS) {
            Check.due("word(0, " + i + ")", x.word(0, i), 0);
            Check.due("word(-1, " + i + ")", x.word(-1, i), 0);
        }
    }

    private static void wordTooLarge() {
        Check.sentence("Promise 8: 0 when there is no such word (too large)");
        ProofMap x = Sample.ofVersions(1);
        for (int i : Sample.TOO_LARGE_WORDS) {
            Check.due("word(0, " + i + ")", x.word(0, i), 0);
            Check.due("word(-1, " + i + ")", x.word(-1, i), 0);
        }
    }

    private static void wordOfNoVersion() {
        Check.sentence("Promise 8: 0 when there is no such version");
        ProofMap x = Sample.ofVersions(2);
        int[] none = {-2, -60, Integer.MIN_VALUE, 2, 3, 60, Integer.MAX_VALUE};
        for (int version : none) {
            Check.digest("no version", x, version, new int[8]);
        }
        Check.due("neither: word(2, 8)", x.word(2, 8), 0);
        Check.due("neither: word(-2, -1)", x.word(-2, -1), 0);
        ProofMap most = Sample.ofVersions(60);
        Check.digest("of 60", most, 60, new int[8]);
        Check.digest("of 60", most, -2, new int[8]);
    }

    private static void alikeNone() {
        Check.sentence("Promise 17: At how many first bits two keys are alike (none)");
        ProofMap x = new ProofMap();
        Check.due("alike(0, 32768)", x.alike(0, 32768), 0);
        Check.due("alike(0, 65535)", x.alike(0, 65535), 0);
        Check.due("alike(65535, 32767)", x.alike(65535, 32767), 0);
    }

    private static void alikeAll() {
        Check.sentence("Promise 17: 16 for one and the same");
        ProofMap x = new ProofMap();
        Check.due("alike(0, 0)", x.alike(0, 0), 16);
        Check.due("alike(65535, 65535)", x.alike(65535, 65535), 16);
        Check.due("alike(32768, 32768)", x.alike(32768, 32768), 16);
        Check.due("one bit less: alike(0, 1)", x.alike(0, 1), 15);
        Check.due("one bit less: alike(65535, 65534)", x.alike(65535, 65534), 15);
    }

    private static void alikeEachNumber() {
        Check.sentence("Promise 17: At how many first bits (not: at how many)");
        ProofMap x = new ProofMap();
        for (int bit = 0; bit < 16; bit++) {
            int high = 32768 >>> bit;
            Check.due("alike(0, " + high + ")", x.alike(0, high), bit);
            Check.due("alike(" + (2 * high - 1) + ", 0)", x.alike(2 * high - 1, 0), bit);
        }
    }

    private static void alikeTooSmall() {
        Check.sentence("Promise 17: BAD (a key too small)");
        ProofMap x = new ProofMap();
        for (int key : Sample.TOO_SMALL_KEYS) {
            Check.due("alike(" + key + ", 0)", x.alike(key, 0), BAD);
            Check.due("alike(65535, " + key + ")", x.alike(65535, key), BAD);
            Check.due("alike(" + key + ", " + key + ")", x.alike(key, key), BAD);
        }
    }

    private static void alikeTooLarge() {
        Check.sentence("Promise 17: BAD (a key too large)");
        ProofMap x = new ProofMap();
        for (int key : Sample.TOO_LARGE_KEYS) {
            Check.due("alike(" + key + ", 0)", x.alike(key, 0), BAD);
            Check.due("alike(65535, " + key + ")", x.alike(65535, key), BAD);
            Check.due("alike(" + key + ", " + key + ")", x.alike(key, key), BAD);
        }
    }

    private static void versionsFromNoneToMost() {
        Check.sentence("Promise 18: How many versions are kept (none to 60)");
        ProofMap x = new ProofMap();
        Check.due("none", x.versions(), 0);
        for (int v = 0; v < 60; v++) {
            x.commit();
            Check.due("after commit no. " + (v + 1), x.versions(), v + 1);
        }
    }

    private static void versionsWhenRefused() {
        Check.sentence("Promise 18: How many versions are kept (a refused commit keeps none, and back lets none go)");
        ProofMap x = Sample.ofVersions(60);
        x.commit();
        Check.due("after FULL", x.versions(), 60);
        x.back(0);
        Check.due("after back(0)", x.versions(), 60);
        x.back(60);
        Check.due("after back(60)", x.versions(), 60);
    }
}
