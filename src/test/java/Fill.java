/** Brings a run of Run.withSigners(answers, 6) to the document's limits. */
final class Fill {
    private Fill() {
    }

    /** Takes all 400 signatures, 0 .. 399: five persons with ten meanings on each of the things 0 .. 7. */
    static void signatures(Run run) {
        int due = 0;
        for (int t = 0; t < 8; t++) {
            if (t > 0) {
                run.thing(0, t);
            }
            for (int p = 1; p <= 5; p++) {
                for (int m = 0; m < 10; m++) {
                    run.sign(t, p, m, 0, due);
                    due++;
                }
            }
        }
    }
}
