/** Counts the answers that are not as due, and ends a test with exit code 1 if there was one. */
final class Check {
    private int wrong = 0;
    private int asked = 0;
    private String sentence = "";

    /** The test of one sentence of the document; what is wrong in it is told with the sentence. */
    void sentence(String words, Runnable test) {
        int before = asked;
        sentence = "'" + words + "': ";
        try {
            test.run();
        } catch (RuntimeException e) {
            // Told as a wrong answer, so that the sentences behind this one are tested too.
            due("throws " + e + ", that it", true, false);
        }
        due("asks something", asked > before, true);
        sentence = "";
    }

    void due(String call, long got, long want) {
        asked++;
        if (got != want) {
            wrong++;
            System.out.println(sentence + call + " answered " + got + ", due is " + want);
        }
    }

    void due(String call, boolean got, boolean want) {
        due(call, got ? 1L : 0L, want ? 1L : 0L);
    }

    /** What run(n) must throw; any other exception ends the test. */
    void refusesRun(UserCore core, int n) {
        boolean thrown = false;
        try {
            core.run(n);
        } catch (IllegalArgumentException e) {
            thrown = true;
        }
        due("run(" + n + ") throws", thrown, true);
    }

    /** A run's answer, its trap and value, and where PC stands behind it. */
    void ran(String what, UserCore core, int n, int[] stepsTrapValuePc) {
        due(what + ": run(" + n + ")", core.run(n), stepsTrapValuePc[0]);
        due(what + ": trap()", core.trap(), stepsTrapValuePc[1]);
        due(what + ": value()", core.value(), stepsTrapValuePc[2]);
        due(what + ": pc()", core.pc(), stepsTrapValuePc[3]);
    }

    /** All that calls can tell of a core but its rights, with the memory at both ends of each page. */
    static int[] stateOf(UserCore core) {
        int[] state = new int[36 + 4 * 32];
        int[] told = {core.pc(), core.trap(), core.value(), core.done()};
        System.arraycopy(told, 0, state, 0, 4);
        for (int k = 0; k < 32; k++) {
            state[4 + k] = core.register(k);
        }
        for (int k = 0; k < 128; k++) {
            state[36 + k] = core.peek(k / 32 * 4096 + (k % 32 < 16 ? k % 32 : 4064 + k % 32));
        }
        return state;
    }

    /** That nothing has changed since stateOf gave a state, but for parts that the test asks itself. */
    void sameState(String what, UserCore core, int[] state, int firstPart) {
        int[] now = stateOf(core);
        for (int k = firstPart; k < state.length; k++) {
            due(what + ": part " + k + " of the state", now[k], state[k]);
        }
    }

    static int[] is(int steps, int trap, int value, int pc) {
        return new int[] {steps, trap, value, pc};
    }

    void end() {
        System.out.println(wrong == 0 ? asked + " answers are as due" : wrong + " answers are not as due");
        if (wrong != 0 || asked == 0) {
            System.exit(1);
        }
    }
}
