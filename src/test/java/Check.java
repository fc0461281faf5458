/** Counts what is not as due and says it; a test ends with exit code 1 when there was one. */
final class Check {
    private static int wrong = 0;

    private Check() {
    }

    /** A call whose exception is looked at. */
    interface Call {
        void make();
    }

    static void same(String what, long got, long due) {
        if (got != due) {
            say(what, Long.toString(got), Long.toString(due));
        }
    }

    static void same(String what, String got, String due) {
        if (!got.equals(due)) {
            say(what, got, due);
        }
    }

    /** The call must throw an IllegalArgumentException. */
    static void argument(String what, Call call) {
        same(what, thrown(call), "IllegalArgumentException");
    }

    /** The call must throw an IllegalStateException. */
    static void state(String what, Call call) {
        same(what, thrown(call), "IllegalStateException");
    }

    /** As argument, and what the desk tells must stay as it was. */
    static void argument(Desk d, String what, Call call) {
        String before = d.told();
        argument(what, call);
        same("what the desk tells behind " + what, d.told(), before);
    }

    /** As state, and what the desk tells must stay as it was. */
    static void state(Desk d, String what, Call call) {
        String before = d.told();
        state(what, call);
        same("what the desk tells behind " + what, d.told(), before);
    }

    private static String thrown(Call call) {
        try {
            call.make();
            return "nothing thrown";
        } catch (RuntimeException e) {
            return e.getClass().getSimpleName();
        }
    }

    private static void say(String what, String got, String due) {
        wrong++;
        System.out.println(what + " answered " + got + ", due is " + due);
    }

    static void end() {
        if (wrong != 0) {
            System.out.println(wrong + " answers are not as due");
            System.exit(1);
        }
    }
}
