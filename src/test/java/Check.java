/** Compares answers with those that are due, and counts the wrong ones. */
final class Check {
    private static final int MOST_PRINTED = 20;

    private static int wrong = 0;
    private static int printed = 0;

    private Check() {
    }

    interface Call {
        Object answer();
    }

    static int wrong() {
        return wrong;
    }

    /** A new test begins, of whose wrong answers the first ones are printed; answers how many were wrong before. */
    static int begin() {
        printed = 0;
        return wrong;
    }

    private static void fail(String message) {
        wrong++;
        printed++;
        if (printed <= MOST_PRINTED) {
            System.out.println("  wrong: " + message);
        }
    }

    static void due(String what, Object want, Object got) {
        if (!want.equals(got)) {
            fail(what + ": due is " + want + ", answered was " + got);
        }
    }

    /** The exception's class must be the very one, not one below it. */
    static void thrown(String what, Class<? extends RuntimeException> want, Call call) {
        Object got = outcome(call);
        if (!want.getSimpleName().equals(got)) {
            fail(what + ": due is " + want.getSimpleName() + ", answered was " + got);
        }
    }

    /** The answer of a call, or the name of the exception that it throws. */
    static Object outcome(Call call) {
        try {
            return call.answer();
        } catch (RuntimeException e) {
            return e.getClass().getSimpleName();
        }
    }

    static String output(FilterWaterworks works, int length) {
        StringBuilder text = new StringBuilder();
        for (int i = 0; i < length; i++) {
            text.append(works.outputAt(i));
        }
        thrown("character behind the output", IndexOutOfBoundsException.class, () -> works.outputAt(length));
        return text.toString();
    }

    static String tank(FilterWaterworks works, int tank) {
        return output(works, works.renderTank(tank));
    }

    static String pipe(FilterWaterworks works, int pipe) {
        return output(works, works.renderPipe(pipe));
    }

    static void type(FilterWaterworks works, String script) {
        for (int i = 0; i < script.length(); i++) {
            works.type(script.charAt(i));
        }
    }

    /** Types a script and runs it: the number of commands, or the name of the exception. */
    static Object run(FilterWaterworks works, String script) {
        type(works, script);
        return outcome(works::runScript);
    }
}
