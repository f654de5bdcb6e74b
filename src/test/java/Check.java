/** Counts the answers that are not as due, and prints each of them. */
final class Check {
    interface Answer {
        long get();
    }

    interface Deed {
        void make();
    }

    private static int wrong = 0;
    private static int asked = 0;

    private Check() {
    }

    static void due(String what, long want, Answer answer) {
        asked++;
        String got;
        try {
            got = Long.toString(answer.get());
        } catch (RuntimeException e) {
            got = e.getClass().getSimpleName();
        }
        report(what, Long.toString(want), got);
    }

    static void refused(String what, Class<? extends RuntimeException> want, Deed deed) {
        asked++;
        String got = "nothing thrown";
        try {
            deed.make();
        } catch (RuntimeException e) {
            got = e.getClass().getSimpleName();
        }
        report(what, want.getSimpleName(), got);
    }

    static void same(String what, String want, String got) {
        asked++;
        report(what, want, got);
    }

    private static void report(String what, String want, String got) {
        if (!want.equals(got)) {
            wrong++;
            if (wrong <= 40) {
                System.out.println(what + " answered " + got + ", due is " + want);
            }
        }
    }

    static void finish() {
        System.out.println(asked + " answers, " + wrong + " not as due");
        if (wrong != 0) {
            System.exit(1);
        }
    }
}
