/** Compares answers with those that are due, prints each that differs, and counts them. */
final class Check {
    interface Call {
        Object answer();
    }

    interface Action {
        void run();
    }

    private static int wrong = 0;
    private static String promise = "";

    private Check() {
    }

    /** Names what the checks that follow are about. */
    static void promise(String name) {
        promise = name;
    }

    /** Names the sentence of ../shared/DOC.md, word by word, that the checks that follow are about. */
    static void sentence(String where, String words) {
        promise(where + ": " + words);
    }

    static void due(Object want, String call, Call got) {
        String answer = answerOf(got);
        if (!answer.equals(String.valueOf(want))) {
            report(call, answer, String.valueOf(want));
        }
    }

    static void indexOut(String call, Action action) {
        throwsJust(IndexOutOfBoundsException.class, call, action);
    }

    static void illegalArgument(String call, Action action) {
        throwsJust(IllegalArgumentException.class, call, action);
    }

    static void illegalState(String call, Action action) {
        throwsJust(IllegalStateException.class, call, action);
    }

    /** What a call answers, as a text: the class itself counts of an exception, and no class above it. */
    static String answerOf(Call call) {
        try {
            return String.valueOf(call.answer());
        } catch (RuntimeException e) {
            return "throws " + e.getClass().getName();
        }
    }

    /** Ends the program, with exit code 1 if an answer was wrong. */
    static void end() {
        System.out.println(wrong == 0 ? "all answers are as due" : wrong + " answers are not as due");
        System.exit(wrong == 0 ? 0 : 1);
    }

    private static void throwsJust(Class<?> kind, String call, Action action) {
        due("throws " + kind.getName(), call, () -> {
            action.run();
            return "nothing thrown";
        });
    }

    private static void report(String call, String got, String want) {
        wrong++;
        System.out.println(promise + ": " + call + " answered " + got + ", due is " + want);
    }
}
