/** Counts wrong answers and ends the program with exit code 1 if there was one. */
final class Check {
    private int wrong;
    private int asked;

    void same(String what, long got, long due) {
        asked++;
        if (got != due) {
            tell(what, String.valueOf(got), String.valueOf(due));
        }
    }

    void same(String what, double got, double due) {
        asked++;
        if (got != due) {
            tell(what, String.valueOf(got), String.valueOf(due));
        }
    }

    void same(String what, String got, String due) {
        asked++;
        if (!got.equals(due)) {
            tell(what, got, due);
        }
    }

    void holds(String what, boolean got) {
        same(what, String.valueOf(got), "true");
    }

    void fails(String what, boolean got) {
        same(what, String.valueOf(got), "false");
    }

    /** Only the very class that is due counts, not one below it. */
    void refuses(String what, Class<? extends RuntimeException> due, Runnable call) {
        asked++;
        try {
            call.run();
            tell(what, "no exception", due.getSimpleName());
        } catch (RuntimeException e) {
            if (e.getClass() != due) {
                tell(what, e.getClass().getSimpleName(), due.getSimpleName());
            }
        }
    }

    private void tell(String what, String got, String due) {
        wrong++;
        if (wrong <= 40) {
            System.out.println(what + " answered " + got + ", due is " + due);
        }
    }

    void end() {
        System.out.println(asked + " checks, " + wrong + " wrong");
        if (wrong != 0) {
            System.exit(1);
        }
    }
}
