/** Counts the calls whose answer is not the one that is due, and prints each with the sentence that it belongs to. */
final class Due {
    private String sentence = "";
    private int sentences = 0;
    private int calls = 0;
    private int wrong = 0;

    /** The sentence of the document (or the run) that the answers looked at from now on belong to. */
    void sentence(String text) {
        sentence = text;
        sentences++;
    }

    void is(String call, long got, long want) {
        calls++;
        if (got != want) {
            fail(call + " answered " + got + ", due is " + want);
        }
    }

    void is(String call, boolean got, boolean want) {
        is(call, got ? 1 : 0, want ? 1 : 0);
    }

    void is(String what, String got, String want) {
        calls++;
        if (!got.equals(want)) {
            fail(what + " is " + got + ", due is " + want);
        }
    }

    /** Told by the exact class, since a class below the one that is due is not it. */
    void isThrown(String call, Runnable run, Class<? extends RuntimeException> want) {
        calls++;
        try {
            run.run();
        } catch (RuntimeException e) {
            if (e.getClass() != want) {
                fail(call + " threw " + e + ", due is " + want.getName());
            }
            return;
        }
        fail(call + " threw nothing, due is " + want.getName());
    }

    private void fail(String text) {
        wrong++;
        System.out.println((sentence.isEmpty() ? "" : "'" + sentence + "': ") + text);
    }

    void end() {
        System.out.println(sentences + " sentences or runs, " + calls + " answers looked at, " + wrong + " not as due");
        if (wrong != 0 || calls == 0) {
            System.exit(1);
        }
    }
}
