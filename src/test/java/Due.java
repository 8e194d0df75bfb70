/** Counts the calls whose answer is not the one that is due, and prints each. */
final class Due {
    private int calls = 0;
    private int wrong = 0;

    void is(String call, long got, long want) {
        calls++;
        if (got != want) {
            wrong++;
            System.out.println(call + " answered " + got + ", due is " + want);
        }
    }

    void is(String call, boolean got, boolean want) {
        is(call, got ? 1 : 0, want ? 1 : 0);
    }

    /** Told by the exact class, since a class below the one that is due is not it. */
    void isThrown(String call, Runnable run, Class<? extends RuntimeException> want) {
        calls++;
        try {
            run.run();
        } catch (RuntimeException e) {
            if (e.getClass() == want) {
                return;
            }
            wrong++;
            System.out.println(call + " threw " + e + ", due is " + want.getName());
            return;
        }
        wrong++;
        System.out.println(call + " threw nothing, due is " + want.getName());
    }

    void end() {
        System.out.println(calls + " answers looked at, " + wrong + " not as due");
        if (wrong != 0 || calls == 0) {
            System.exit(1);
        }
    }
}
