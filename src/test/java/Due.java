import java.nio.charset.StandardCharsets;
import java.util.function.IntSupplier;

/** Prints and counts the answers that are not the ones that are due, and types whole texts. */
final class Due {
    static final String STATE = "throws.IllegalStateException";
    static final String ARGUMENT = "throws.IllegalArgumentException";
    private static int wrong = 0;

    private Due() {
    }

    static void due(String call, Object got, Object want) {
        if (!String.valueOf(got).equals(String.valueOf(want))) {
            wrong++;
            System.out.println(call + " answered " + got + ", due is " + want);
        }
    }

    /** What a call answers, or the name of what it throws. */
    static String answer(IntSupplier call) {
        try {
            return String.valueOf(call.getAsInt());
        } catch (RuntimeException e) {
            return "throws." + e.getClass().getSimpleName();
        }
    }

    static void type(ProofTrimmer x, String text) {
        byte[] bytes = text.getBytes(StandardCharsets.ISO_8859_1);
        int[] row = new int[bytes.length];
        for (int i = 0; i < row.length; i++) {
            row[i] = bytes[i] & 255;
        }
        typeBytes(x, row);
    }

    static void typeBytes(ProofTrimmer x, int... row) {
        for (int i = 0; i < row.length; i += 8) {
            int n = Math.min(8, row.length - i);
            long bytes = 0;
            for (int j = 0; j < n; j++) {
                bytes = bytes << 8 | row[i + j];
            }
            x.type(bytes, n);
        }
    }

    /** A new object with this formula. */
    static ProofTrimmer of(String formula) {
        ProofTrimmer x = new ProofTrimmer();
        type(x, formula);
        x.formula();
        return x;
    }

    /** A new object with this formula and this proof in characters. */
    static ProofTrimmer of(String formula, String proof) {
        ProofTrimmer x = of(formula);
        type(x, proof);
        x.proof(false);
        return x;
    }

    static void hintsDue(String what, ProofTrimmer x, int c, int... want) {
        due(what + ": hints(" + c + ")", x.hints(c), want.length);
        for (int k = 0; k < want.length; k++) {
            due(what + ": hint(" + c + ", " + k + ")", x.hint(c, k), want[k]);
        }
        due(what + ": the hint behind the last one of " + c, x.hint(c, want.length), 0);
    }

    /** Just these clauses are marked. */
    static void marksDue(String what, ProofTrimmer x, int... want) {
        for (int c = -1; c <= 34; c++) {
            boolean wanted = false;
            for (int w : want) {
                wanted |= w == c;
            }
            due(what + ": marked(" + c + ")", x.marked(c), wanted);
        }
    }

    static String allWritten(ProofTrimmer x, int length) {
        StringBuilder all = new StringBuilder();
        for (int i = 0; i < length; i++) {
            all.append((char) x.written(i));
        }
        return all.toString();
    }

    static void end() {
        System.out.println(wrong == 0 ? "all answers are as due" : wrong + " answers are not as due");
        if (wrong != 0) {
            System.exit(1);
        }
    }
}
