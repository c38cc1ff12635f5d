/** Counts what the tests of one main method find, and ends it with exit code 1 if something was wrong. */
final class Check {
    /** A section that goes wrong often prints only so much, so that the others are seen, too. */
    private static final int MOST_PRINTED = 20;

    private int passed;
    private int failed;
    private String section = "";
    private int printed;

    interface Call {
        long answer();
    }

    void section(String name) {
        section = name;
        printed = 0;
    }

    private void print(String fault) {
        printed++;
        if (printed <= MOST_PRINTED) {
            System.out.println(section + ": " + fault);
        }
    }

    /** One sentence of the document with the test that is its own; what it throws does not stop the others. */
    void sentence(String words, Runnable test) {
        section(words);
        int before = passed + failed;
        try {
            test.run();
        } catch (RuntimeException thrown) {
            due("the test threw " + thrown, false, true);
        }
        due("the sentence was tested", passed + failed > before, true);
    }

    boolean good() {
        return failed == 0;
    }

    void due(String call, long got, long want) {
        if (got == want) {
            passed++;
            return;
        }
        failed++;
        print(call + " answered " + got + ", due is " + want);
    }

    void due(String call, String got, String want) {
        if (got.equals(want)) {
            passed++;
            return;
        }
        failed++;
        print(call + " is " + got + ", due is " + want);
    }

    void due(String call, boolean got, boolean want) {
        due(call, got ? 1 : 0, want ? 1 : 0);
    }

    /** The call must throw just this class, by a throw of the program's own and not by the machine. */
    void dueThrow(String call, Class<?> want, Call made) {
        String got = "nothing";
        try {
            made.answer();
        } catch (RuntimeException thrown) {
            got = byMachine(thrown) ? "the machine's " + thrown : thrown.getClass().getName();
        }
        due("what " + call + " throws", got, want.getName());
    }

    /** The machine's own exceptions tell the index or the length; the program's texts never hold a digit there. */
    static boolean byMachine(RuntimeException thrown) {
        String text = thrown.getMessage();
        return text == null || text.startsWith("Index ") || text.startsWith("-") || text.equals("/ by zero");
    }

    void end(String name) {
        System.out.println(name + ": " + passed + " answers as due, " + failed + " not");
        if (failed != 0) {
            System.exit(1);
        }
    }
}
