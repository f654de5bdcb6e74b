/** Counts the answers that are not as due, and prints each of them. */
final class Check {
    interface Answer {
        long get();
    }

    interface Deed {
        void make();
    }

    static final Class<IllegalArgumentException> UNKNOWN = IllegalArgumentException.class;
    static final Class<IndexOutOfBoundsException> RANGE = IndexOutOfBoundsException.class;
    static final Class<IllegalStateException> STATE = IllegalStateException.class;
    static final Class<UnsupportedOperationException> ROOM = UnsupportedOperationException.class;
    static final Class<ArithmeticException> NONE = ArithmeticException.class;

    private static final int LONG = 100;

    private static String words = "";
    private static int sentences = 0;
    private static int wrong = 0;
    private static int asked = 0;

    private Check() {
    }

    /** The document's words that the checks from here on hold the class to. */
    static void sentence(String ofTheDocument) {
        words = "\"" + ofTheDocument + "\": ";
        sentences++;
    }

    static void due(String what, long want, Answer answer) {
        asked++;
        String got;
        try {
            got = Long.toString(answer.get());
        } catch (RuntimeException e) {
            got = name(e);
        }
        report(what, Long.toString(want), got);
    }

    static void refused(String what, Class<? extends RuntimeException> want, Deed deed) {
        asked++;
        String got = "nothing thrown";
        try {
            deed.make();
        } catch (RuntimeException e) {
            got = name(e);
        }
        report(what, want.getSimpleName(), got);
    }

    /** A division by 0 throws what the document asks for in places, but it is the machine that throws. */
    static String name(RuntimeException e) {
        String by = "/ by zero".equals(e.getMessage()) ? " of the machine" : "";
        return e.getClass().getSimpleName() + by;
    }

    static void taken(String what, Deed deed) {
        due(what, 0, () -> {
            deed.make();
            return 0;
        });
    }

    static void holds(String what, boolean is) {
        due(what, 1, () -> is ? 1 : 0);
    }

    static void same(String what, String want, String got) {
        asked++;
        if (want.length() > LONG && !want.equals(got)) {
            int at = firstDifference(want, got);
            report(what, around(want, at), around(got, at) + " ");
        } else {
            report(what, want, got);
        }
    }

    private static int firstDifference(String a, String b) {
        int at = 0;
        while (at < a.length() && at < b.length() && a.charAt(at) == b.charAt(at)) {
            at++;
        }
        return at;
    }

    private static String around(String text, int at) {
        return ".." + text.substring(Math.max(0, at - LONG / 2), Math.min(text.length(), at + LONG / 2)) + "..";
    }

    private static void report(String what, String want, String got) {
        if (!want.equals(got)) {
            wrong++;
            if (wrong <= 40) {
                System.out.println(words + what + " answered " + got + ", due is " + want);
            }
        }
    }

    static void finish() {
        String of = sentences == 0 ? "" : ", sentences: " + sentences;
        System.out.println("answers: " + asked + of + ", not as due: " + wrong);
        if (wrong != 0) {
            System.exit(1);
        }
    }
}
