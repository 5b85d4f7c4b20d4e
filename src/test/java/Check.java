/** Counts the answers that are not as due; each test has one of these. */
final class Check {
    private int wrong = 0;
    private int asked = 0;

    void due(String call, long got, long want) {
        asked++;
        if (got != want) {
            wrong++;
            System.out.println(call + " answered " + got + ", due is " + want);
        }
    }

    /** A text as rows of answers: every call of a row must have the same answer. */
    void dueAll(String calls, long want, long... got) {
        for (int i = 0; i < got.length; i++) {
            due(calls + " [" + i + "]", got[i], want);
        }
    }

    /** Everything that about(0 .. 13) tells. */
    void dueAbout(String when, AntLease x, int... want) {
        for (int what = 0; what < want.length; what++) {
            due(when + ": about(" + what + ")", x.about(what), want[what]);
        }
    }

    static void write(AntLease x, String text) {
        for (int i = 0; i < text.length(); i++) {
            x.write(text.charAt(i));
        }
    }

    /** A new object with the manor that a text tells. */
    static AntLease manor(String text) {
        AntLease x = new AntLease();
        write(x, text);
        if (x.manor() < 0) {
            throw new IllegalStateException(text + " is no manor");
        }
        return x;
    }

    int asked() {
        return asked;
    }

    void end() {
        if (wrong != 0) {
            System.out.println(wrong + " of " + asked + " answers are not as due");
            System.exit(1);
        }
    }
}
