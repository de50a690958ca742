/** Counts and prints the answers that are not as due. */
final class Check {
    private int wrong;

    void due(String call, long got, long want) {
        if (got != want) {
            tell(call + " answered " + got + ", due is " + want);
        }
    }

    void due(String call, boolean got, boolean want) {
        if (got != want) {
            tell(call + " answered " + got + ", due is " + want);
        }
    }

    void refusesArgument(String call, Runnable run) {
        refuses(call, IllegalArgumentException.class, run);
    }

    void refusesState(String call, Runnable run) {
        refuses(call, IllegalStateException.class, run);
    }

    private void refuses(String call, Class<? extends RuntimeException> want, Runnable run) {
        try {
            run.run();
        } catch (RuntimeException e) {
            if (e.getClass() != want) {
                tell(call + " threw " + e + ", due is " + want.getSimpleName());
            }
            return;
        }
        tell(call + " threw nothing, due is " + want.getSimpleName());
    }

    void tell(String what) {
        wrong++;
        if (wrong <= 50) {
            System.out.println(what);
        }
    }

    boolean isClean() {
        return wrong == 0;
    }

    void end() {
        System.out.println(wrong == 0 ? "all answers are as due" : wrong + " answers are not as due");
        if (wrong != 0) {
            System.exit(1);
        }
    }
}
