/** Counts the answers that are not the ones that are due, and ends a test by them. */
final class Check {
    private static int asked = 0;
    private static int wrong = 0;
    private static int wrongBySentence = 0;
    private static String sentence = "";

    private Check() {
    }

    /** The document's words that the answers from here on are due by. */
    static void sentence(String words) {
        sentence = "[" + words + "] ";
        wrongBySentence = 0;
    }

    static void due(String call, long got, long want) {
        asked++;
        if (got != want) {
            wrong++;
            wrongBySentence++;
            // A fault in the digest spoils thousands of answers; the first ones tell enough.
            if (wrongBySentence <= 20) {
                System.out.println(sentence + call + " answered " + got + ", due is " + want);
            }
        }
    }

    static void holds(String what, boolean held) {
        due(what, held ? 1 : 0, 1);
    }

    /** Eight calls. */
    static void digest(String what, ProofMap x, int version, int[] want) {
        for (int i = 0; i < 8; i++) {
            due(what + ": word(" + version + ", " + i + ")", x.word(version, i), want[i]);
        }
    }

    /** Eight calls. */
    static void siblingWords(String what, ProofMap x, int k, int[] want) {
        for (int i = 0; i < 8; i++) {
            due(what + ": sibling(" + k + ", " + i + ")", x.sibling(k, i), want[i]);
        }
    }

    static void proofEnd(String what, ProofMap x, int entry, int key, int value) {
        due(what + ": end(0)", x.end(0), entry);
        due(what + ": end(1)", x.end(1), key);
        due(what + ": end(2)", x.end(2), value);
    }

    /**
     * All that can be asked of two objects, one of which had a call more that was to change nothing.
     * Fifteen calls, two for each version and eight for each sibling.
     */
    static void sameState(String what, ProofMap x, ProofMap untouched) {
        due(what + ": size(-1)", x.size(-1), untouched.size(-1));
        int versions = untouched.versions();
        due(what + ": versions()", x.versions(), versions);
        for (int v = 0; v < versions; v++) {
            due(what + ": size(" + v + ")", x.size(v), untouched.size(v));
            due(what + ": word(" + v + ", 0)", x.word(v, 0), untouched.word(v, 0));
        }
        for (int i = 0; i < 8; i++) {
            due(what + ": word(-1, " + i + ")", x.word(-1, i), untouched.word(-1, i));
        }
        int siblings = untouched.siblings();
        due(what + ": siblings()", x.siblings(), siblings);
        for (int k = 0; k < siblings; k++) {
            for (int i = 0; i < 8; i++) {
                due(what + ": sibling(" + k + ", " + i + ")", x.sibling(k, i), untouched.sibling(k, i));
            }
        }
        proofEnd(what, x, untouched.end(0), untouched.end(1), untouched.end(2));
    }

    static void end() {
        System.out.println(asked + " answers, " + wrong + " not as due");
        if (wrong != 0 || asked == 0) {
            System.exit(1);
        }
    }
}
