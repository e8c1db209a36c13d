/** Prints every call whose answer is not the one that is due, and ends with exit code 1 if there was one. */
final class Due {
    interface Call {
        long run();
    }

    private int wrong;
    private String sentence = "";

    static String answerOf(Call call) {
        try {
            return Long.toString(call.run());
        } catch (RuntimeException e) {
            return thrown(e.getClass());
        }
    }

    static String thrown(Class<? extends RuntimeException> kind) {
        return "throws." + kind.getSimpleName();
    }

    static long bit(boolean answer) {
        return answer ? 1 : 0;
    }

    /** Where in the document, and in which words, stands what is due from here on. */
    void sentence(String placeAndWords) {
        sentence = placeAndWords + " | ";
    }

    void is(String what, Call call, long want) {
        same(what, answerOf(call), Long.toString(want));
    }

    void raises(String what, Call call, Class<? extends RuntimeException> want) {
        same(what, answerOf(call), thrown(want));
    }

    void same(String what, String got, String want) {
        if (!got.equals(want)) {
            wrong++;
            System.out.println(sentence + what + " answered " + got + ", due is " + want);
        }
    }

    void end() {
        System.out.println(wrong == 0 ? "all answers are as due" : wrong + " answers are not as due");
        if (wrong != 0) {
            System.exit(1);
        }
    }
}
