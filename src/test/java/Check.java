/** Counts the answers that are not due, and prints them. */
final class Check {
    interface Call {
        void run();
    }

    private static int asked;
    private static int wrong;

    private Check() {
    }

    static void due(String what, long want, long got) {
        asked++;
        if (want != got) {
            wrong++;
            System.out.println(what + " answered " + got + ", due is " + want);
        }
    }

    static void due(String what, String want, String got) {
        asked++;
        if (!want.equals(got)) {
            wrong++;
            System.out.println(what + " answered " + got + ", due is " + want);
        }
    }

    static void index(String what, Call call) {
        due(what, "IndexOutOfBoundsException", thrownBy(call));
    }

    static void argument(String what, Call call) {
        due(what, "IllegalArgumentException", thrownBy(call));
    }

    static void state(String what, Call call) {
        due(what, "IllegalStateException", thrownBy(call));
    }

    static void fine(String what, Call call) {
        due(what, "nothing", thrownBy(call));
    }

    static void thrown(String what, String due, Call call) {
        due(what, due, thrownBy(call));
    }

    /** The name of the very class that was thrown: one below it is not what the document says. */
    private static String thrownBy(Call call) {
        try {
            call.run();
            return "nothing";
        } catch (RuntimeException e) {
            return e.getClass().getSimpleName();
        }
    }

    static void end() {
        System.out.println(asked + " answers asked, " + wrong + " wrong");
        if (wrong > 0) {
            System.exit(1);
        }
    }
}
