/** Counts the answers that are not as due, and ends a test with exit code 1 if there was one. */
final class Check {
    private int wrong = 0;
    private int asked = 0;

    void due(String call, long got, long want) {
        asked++;
        if (got != want) {
            wrong++;
            System.out.println(call + " answered " + got + ", due is " + want);
        }
    }

    void due(String call, boolean got, boolean want) {
        due(call, got ? 1L : 0L, want ? 1L : 0L);
    }

    /** What run(n) must throw; any other exception ends the test. */
    void refusesRun(UserCore core, int n) {
        boolean thrown = false;
        try {
            core.run(n);
        } catch (IllegalArgumentException e) {
            thrown = true;
        }
        due("run(" + n + ") throws", thrown, true);
    }

    /** A run's answer, its trap and value, and where PC stands behind it. */
    void ran(String what, UserCore core, int n, int[] stepsTrapValuePc) {
        due(what + ": run(" + n + ")", core.run(n), stepsTrapValuePc[0]);
        due(what + ": trap()", core.trap(), stepsTrapValuePc[1]);
        due(what + ": value()", core.value(), stepsTrapValuePc[2]);
        due(what + ": pc()", core.pc(), stepsTrapValuePc[3]);
    }

    static int[] is(int steps, int trap, int value, int pc) {
        return new int[] {steps, trap, value, pc};
    }

    void end() {
        System.out.println(wrong == 0 ? asked + " answers are as due" : wrong + " answers are not as due");
        if (wrong != 0 || asked == 0) {
            System.exit(1);
        }
    }
}
