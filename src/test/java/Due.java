import java.io.IOException;
import java.io.UncheckedIOException;
import java.nio.charset.StandardCharsets;
import java.nio.file.Files;
import java.nio.file.Path;
import java.util.function.Supplier;

/** Prints and counts the answers that are not the ones that are due, and types whole texts. */
final class Due {
    static final String STATE = "throws.IllegalStateException";
    static final String ARGUMENT = "throws.IllegalArgumentException";
    private static final Path DOCUMENT = Path.of("..", "shared", "DOC.md");
    private static String document = "";
    private static String about = "";
    private static int wrong = 0;

    private Due() {
    }

    /** What is due from here on is due by this sentence, which must stand in the document word by word. */
    static void sentence(String words) {
        about = "\"" + words + "\" ";
        due("the words of the document", document().contains(words), true);
    }

    static String document() {
        if (document.isEmpty()) {
            try {
                document = Files.readString(DOCUMENT);
            } catch (IOException e) {
                throw new UncheckedIOException(e);
            }
        }
        return document;
    }

    static void due(String call, Object got, Object want) {
        if (!String.valueOf(got).equals(String.valueOf(want))) {
            wrong++;
            System.out.println(about + call + " answered " + got + ", due is " + want);
        }
    }

    /** What a call answers, or the name of what it throws. */
    static String answer(Supplier<?> call) {
        try {
            return String.valueOf(call.get());
        } catch (RuntimeException e) {
            return "throws." + e.getClass().getSimpleName();
        }
    }

    static void type(ProofTrimmer x, String text) {
        byte[] bytes = text.getBytes(StandardCharsets.ISO_8859_1);
        int[] row = new int[bytes.length];
        for (int i = 0; i < row.length; i++) {
            row[i] = bytes[i] & 255;
        }
        typeBytes(x, row);
    }

    static void typeBytes(ProofTrimmer x, int... row) {
        for (int i = 0; i < row.length; i += 8) {
            int n = Math.min(8, row.length - i);
            long bytes = 0;
            for (int j = 0; j < n; j++) {
                bytes = bytes << 8 | row[i + j];
            }
            x.type(bytes, n);
        }
    }

    /** A new object with this formula. */
    static ProofTrimmer of(String formula) {
        ProofTrimmer x = new ProofTrimmer();
        type(x, formula);
        x.formula();
        return x;
    }

    /** A new object with this formula and this proof in characters. */
    static ProofTrimmer of(String formula, String proof) {
        ProofTrimmer x = of(formula);
        type(x, proof);
        x.proof(false);
        return x;
    }

    /** A new object with this formula and this proof in characters, after a check. */
    static ProofTrimmer checked(String formula, String proof) {
        ProofTrimmer x = of(formula, proof);
        x.check();
        return x;
    }

    static void hintsDue(String what, ProofTrimmer x, int c, int... want) {
        due(what + ": hints(" + c + ")", x.hints(c), want.length);
        for (int k = 0; k < want.length; k++) {
            due(what + ": hint(" + c + ", " + k + ")", x.hint(c, k), want[k]);
        }
        due(what + ": the hint behind the last one of " + c, x.hint(c, want.length), 0);
    }

    /** Just these clauses are marked. */
    static void marksDue(String what, ProofTrimmer x, int... want) {
        for (int c = -1; c <= 34; c++) {
            boolean wanted = false;
            for (int w : want) {
                wanted |= w == c;
            }
            due(what + ": marked(" + c + ")", x.marked(c), wanted);
        }
    }

    /** The steps from 1 on added or took just these, and there is none before or behind them. */
    static void stepsDue(String what, ProofTrimmer x, int... want) {
        due(what + ": step(0)", x.step(0), ProofTrimmer.NONE);
        for (int s = 1; s <= want.length; s++) {
            due(what + ": step(" + s + ")", x.step(s), want[s - 1]);
        }
        due(what + ": the step behind the last one", x.step(want.length + 1), ProofTrimmer.NONE);
    }

    /** Nothing is checked: no mark, no hint, and nothing to go over or to write. */
    static void nothingChecked(String what, ProofTrimmer x) {
        marksDue(what, x);
        for (int c = 1; c <= 32; c++) {
            due(what + ": hints(" + c + ")", x.hints(c), 0);
            due(what + ": hint(" + c + ", 0)", x.hint(c, 0), 0);
            due(what + ": poke(" + c + ", 0, 1)", x.poke(c, 0, 1), false);
        }
        due(what + ": verify()", answer(x::verify), STATE);
        due(what + ": write()", answer(x::write), STATE);
    }

    static String allWritten(ProofTrimmer x, int length) {
        StringBuilder all = new StringBuilder();
        for (int i = 0; i < length; i++) {
            all.append((char) x.written(i));
        }
        return all.toString();
    }

    /** All that an object tells without being changed. */
    static String told(ProofTrimmer x) {
        StringBuilder all = new StringBuilder();
        for (int c = 1; c <= x.clauses(); c++) {
            all.append(c).append(x.marked(c) ? " marked" : "").append(" of");
            for (int k = 0; k < x.size(c); k++) {
                all.append(' ').append(x.literal(c, k));
            }
            all.append(" by");
            for (int k = 0; k < x.hints(c); k++) {
                all.append(' ').append(x.hint(c, k));
            }
            all.append('\n');
        }
        for (int s = 1; x.step(s) != ProofTrimmer.NONE; s++) {
            all.append(" step ").append(x.step(s));
        }
        all.append('\n');
        for (int i = 0; x.written(i) != ProofTrimmer.NONE; i++) {
            all.append((char) x.written(i));
        }
        return all.toString();
    }

    /** A call throws this, and all that can be told, gone over and written is as it was. */
    static void refusedDue(String call, ProofTrimmer x, Supplier<?> refused, String thrown) {
        String before = told(x) + answer(x::verify) + answer(x::write);
        due(call, answer(refused), thrown);
        due(call + " leaves everything", told(x) + answer(x::verify) + answer(x::write), before);
    }

    static void end() {
        System.out.println(wrong == 0 ? "all answers are as due" : wrong + " answers are not as due");
        if (wrong != 0) {
            System.exit(1);
        }
    }
}
