/** Counts and prints the calls whose answer is not the one that is due. */
final class Checks {
    interface IntCall { int run(); }
    interface DoubleCall { double run(); }
    interface VoidCall { void run(); }

    static final String ARGUMENT = "throws.IllegalArgumentException";
    static final String STATE = "throws.IllegalStateException";
    static final String INDEX = "throws.IndexOutOfBoundsException";
    static final String ARITHMETIC = "throws.ArithmeticException";

    private int made = 0;
    private int wrong = 0;
    private String sentence = "";

    /** The document's words that the checks after this one are about. */
    void under(String words) { sentence = "\"" + words + "\": "; }

    void due(String call, String got, String want) {
        made++;
        if (!got.equals(want)) {
            wrong++;
            if (wrong <= 50) {
                System.out.println(sentence + call + " answered " + got + ", due is " + want);
            }
        }
    }

    void ints(String call, IntCall run, int want) { due(call, ofInt(run), "" + want); }
    void ints(String call, IntCall run, String want) { due(call, ofInt(run), want); }
    void doubles(String call, DoubleCall run, double want) { due(call, ofDouble(run), text(want)); }
    void doubles(String call, DoubleCall run, String want) { due(call, ofDouble(run), want); }
    void done(String call, VoidCall run) { due(call, ofVoid(run), "done"); }
    void voids(String call, VoidCall run, String want) { due(call, ofVoid(run), want); }

    void certify(String at, CertificateDesk d, int what, int k, double want) {
        doubles(at + " certify(" + what + ", " + k + ")", () -> d.certify(what, k), want);
    }

    void certify(String at, CertificateDesk d, int what, int k, String want) {
        doubles(at + " certify(" + what + ", " + k + ")", () -> d.certify(what, k), want);
    }

    void sign(String at, CertificateDesk d, int what, int k, int want) {
        ints(at + " sign(" + what + ", " + k + ")", () -> d.sign(what, k), want);
    }

    void sign(String at, CertificateDesk d, int what, int k, String want) {
        ints(at + " sign(" + what + ", " + k + ")", () -> d.sign(what, k), want);
    }

    /** A figure that is a double itself: its answer and its sign. */
    void figure(String at, CertificateDesk d, int what, int k, double want) {
        certify(at, d, what, k, want);
        sign(at, d, what, k, want > 0.0 ? 1 : want < 0.0 ? -1 : 0);
    }

    /** A figure that is refused: certify and sign alike. */
    void refused(String at, CertificateDesk d, int what, int k, String want) {
        certify(at, d, what, k, want);
        sign(at, d, what, k, want);
    }

    static String ofInt(IntCall run) {
        try { return "" + run.run(); } catch (RuntimeException e) { return thrown(e); }
    }

    static String ofDouble(DoubleCall run) {
        try { return text(run.run()); } catch (RuntimeException e) { return thrown(e); }
    }

    static String ofVoid(VoidCall run) {
        try { run.run(); return "done"; } catch (RuntimeException e) { return thrown(e); }
    }

    /** Tells -0.0 from 0.0, and every double from its neighbours. */
    static String text(double d) { return Double.toString(d) + " " + Double.toHexString(d); }

    // The exact class: what the machine throws is of a class below or beside the document's.
    private static String thrown(RuntimeException e) { return "throws." + e.getClass().getSimpleName(); }

    void end() {
        System.out.println((made - wrong) + " answers as due, " + wrong + " not as due");
        if (wrong != 0) {
            System.exit(1);
        }
    }
}
