/** What can be learned of an object, as a text to hold against another object's. */
final class Portrait {
    private static final int CALLS_OF_A_RUN = 12;

    private Portrait() {
    }

    /** All that is told of the run, by some 110 calls that change nothing. */
    static String seen(DaySimulate d) {
        StringBuilder text = new StringBuilder();
        for (int i = 0; i <= CALLS_OF_A_RUN; i++) {
            for (int what = 0; what < 6; what++) {
                add(text, d, "call " + i + " " + what);
            }
        }
        for (int u = 0; u <= 12; u++) {
            add(text, d, "work " + u);
        }
        for (int minute = 0; minute < 1700; minute += 100) {
            add(text, d, "arrived " + minute);
        }
        for (String call : new String[] {"share 0", "share 1", "mean", "missed", "worst"}) {
            add(text, d, call);
        }
        return text.toString();
    }

    /** Stations, areas, units, variants, pace and mark, by some 330 calls that show them. */
    static String coming(DaySimulate d) {
        StringBuilder text = new StringBuilder();
        for (int variant = 0; variant < 4; variant++) {
            add(text, d, "run " + variant + " 77 5 30");
            for (int i = 0; i < 30; i++) {
                add(text, d, "call " + i + " 3");
                add(text, d, "call " + i + " 4");
            }
            add(text, d, "missed");
        }
        for (int k = 0; k < 7; k++) {
            add(text, d, "station 1 " + k);
        }
        for (int k = 0; k < 11; k++) {
            add(text, d, "area " + k + " 1 1");
        }
        for (int k = 0; k < 24; k++) {
            add(text, d, "unit " + k % 6);
        }
        add(text, d, "run 3 78 6 30");
        add(text, d, "mean");
        return text.toString();
    }

    private static void add(StringBuilder text, DaySimulate d, String call) {
        text.append(call).append(" = ").append(Asked.of(d, call)).append("; ");
    }
}
