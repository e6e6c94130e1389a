/** Counts answers that are not the ones due, and ends the program with exit code 1 if there was one. */
final class Check {
    interface Call {
        Object go();
    }

    interface CallWith {
        Object of(int value);
    }

    private final String name;
    private String sentence = "";
    private int checks;
    private int wrong;

    Check(String name) {
        this.name = name;
    }

    /** The checks that follow are of this sentence of the document. */
    void sentence(String words) {
        sentence = words;
    }

    void answers(Object due, String what, Call call) {
        tell(what, String.valueOf(due), outcome(call));
    }

    void refuses(Class<? extends RuntimeException> due, String what, Call call) {
        tell(what, "throws " + due.getName(), outcome(call));
    }

    /** Refuses the first value beyond on each side, and the ends of int, where all wraps around. */
    void refusesBeyond(Class<? extends RuntimeException> due, int least, int greatest, String what, CallWith call) {
        for (int wrongValue : new int[] {Integer.MIN_VALUE, least - 1, greatest + 1, Integer.MAX_VALUE}) {
            refuses(due, what + " " + wrongValue, () -> call.of(wrongValue));
        }
    }

    void tell(String what, String due, String got) {
        checks++;
        if (!due.equals(got)) {
            wrong++;
            String of = sentence.isEmpty() ? "" : " (\"" + sentence + "\")";
            System.out.println(name + ": " + what + ": " + got + ", due is " + due + of);
        }
    }

    /** The exception's own class counts: one below the class that the document names is wrong too. */
    static String outcome(Call call) {
        try {
            return String.valueOf(call.go());
        } catch (RuntimeException e) {
            return "throws " + e.getClass().getName() + (isThrownByHand(e) ? "" : ", out of the library");
        }
    }

    /** A list's own exception may be of the right class, but the class must throw by itself. */
    private static boolean isThrownByHand(RuntimeException e) {
        StackTraceElement[] trace = e.getStackTrace();
        if (trace.length == 0) {
            return false;
        }
        String thrower = trace[0].getClassName();
        return thrower.startsWith("Dronegrade") || thrower.startsWith("Model");
    }

    void finish() {
        System.out.println(name + ": " + checks + " checks, " + wrong + " wrong");
        if (wrong != 0) {
            System.exit(1);
        }
    }
}
