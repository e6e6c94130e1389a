/** Counts answers that are not the ones due, and ends the program with exit code 1 if there was one. */
final class Check {
    interface Call {
        Object go();
    }

    private final String name;
    private int checks;
    private int wrong;

    Check(String name) {
        this.name = name;
    }

    void answers(Object due, String what, Call call) {
        tell(what, String.valueOf(due), outcome(call));
    }

    void refuses(Class<? extends RuntimeException> due, String what, Call call) {
        tell(what, "throws " + due.getName(), outcome(call));
    }

    void tell(String what, String due, String got) {
        checks++;
        if (!due.equals(got)) {
            wrong++;
            System.out.println(name + ": " + what + ": " + got + ", due is " + due);
        }
    }

    /** The exception's own class counts: one below the class that the document names is wrong too. */
    static String outcome(Call call) {
        try {
            return String.valueOf(call.go());
        } catch (RuntimeException e) {
            return "throws " + e.getClass().getName();
        }
    }

    void finish() {
        System.out.println(name + ": " + checks + " checks, " + wrong + " wrong");
        if (wrong != 0) {
            System.exit(1);
        }
    }
}
