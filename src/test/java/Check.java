/** Counts the answers that are not as due; a test ends with finish(). */
final class Check {
    interface Call {
        void run();
    }

    private static int wrong = 0;
    private static int asked = 0;
    private static String sentence = "";
    private static int askedBefore = 0;

    private Check() {
    }

    /** From here on answers are asked for the sake of these words of the document. */
    static void sentence(String words) {
        endSentence();
        sentence = words;
        askedBefore = asked;
    }

    // A sentence that nothing is asked for would look as if it held.
    private static void endSentence() {
        if (!sentence.isEmpty() && asked == askedBefore) {
            tell("nothing was asked for");
        }
    }

    private static void tell(String what) {
        wrong++;
        System.out.println(sentence.isEmpty() ? what : "\"" + sentence + "\": " + what);
    }

    static void same(String what, long got, long due) {
        asked++;
        if (got != due) {
            tell(what + " answered " + got + " (" + Long.toHexString(got) + "), due is "
                + due + " (" + Long.toHexString(due) + ")");
        }
    }

    static void isTrue(String what, boolean got) {
        same(what, got ? 1 : 0, 1);
    }

    static void isFalse(String what, boolean got) {
        same(what, got ? 1 : 0, 0);
    }

    /** The call throws exactly this exception, not a class below it. */
    static void refuses(String what, Class<? extends RuntimeException> due, Call call) {
        asked++;
        Class<?> got = null;
        try {
            call.run();
        } catch (RuntimeException e) {
            got = e.getClass();
        }
        if (got != due) {
            tell(what + " threw " + got + ", due is " + due);
        }
    }

    static void outOfBounds(String what, Call call) {
        refuses(what, IndexOutOfBoundsException.class, call);
    }

    static void badArgument(String what, Call call) {
        refuses(what, IllegalArgumentException.class, call);
    }

    static void finish() {
        endSentence();
        System.out.println(asked + " answers asked for, " + wrong + " not as due");
        if (wrong != 0 || asked == 0) {
            System.exit(1);
        }
    }
}
