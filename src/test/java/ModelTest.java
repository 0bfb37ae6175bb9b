import java.util.ArrayList;
import java.util.Collections;
import java.util.List;
import java.util.Random;

/** All promises: runs of at most 512 calls, drawn from fixed seeds, answered by the program and by the model. */
public final class ModelTest {
    private static final int RUNS = 12000;
    private static final int MOST_CALLS = 512;

    private final Random random;
    private final ProofTrimmer x = new ProofTrimmer();
    private final Model m = new Model();
    private final String run;
    private int calls = 0;
    private int formulaClauses = 0;

    private static int refuted = 0;
    private static int wrong = 0;
    private static int bad = 0;
    private static int stillGood = 0;
    private static int settled = 0;
    private static int tried = 0;
    private static int mostHints = 0;

    private ModelTest(long seed) {
        random = new Random(seed);
        run = "seed " + seed;
    }

    public static void main(String[] args) {
        for (long seed = 1; seed <= RUNS; seed++) {
            ModelTest one = new ModelTest(seed);
            try {
                one.play();
            } catch (RunEnds end) {
                // What later calls answer is free.
            }
            settled += one.m.partnersSettled;
            tried += one.m.partnersTried;
        }
        System.out.println(refuted + " refuted, " + wrong + " wrong, " + bad + " bad, " + stillGood
            + " still good after a poke, partners " + settled + " settled and " + tried + " tried, most hints "
            + mostHints);
        // The runs are worth nothing if they don't come to these.
        Due.due("runs that come to what is looked for", refuted > 1000 && wrong > 300 && bad > 1000
            && stillGood > 100 && settled > 300 && tried > 1000, true);
        Due.end();
    }

    private void play() {
        int rounds = 1 + random.nextInt(3);
        for (int round = 0; round < rounds; round++) {
            int variables = 2 + random.nextInt(7);
            List<List<Integer>> formula = drawFormula(variables);
            takeFormula(formula, variables);
            for (int i = random.nextInt(3); i >= 0; i--) {
                takeProof(variables);
                checkAndAsk();
            }
        }
    }

    // ---- drawing

    private int drawLiteral(int variables) {
        int v = 1 + random.nextInt(variables);
        return random.nextBoolean() ? v : -v;
    }

    private List<Integer> drawClause(int variables, int most) {
        List<Integer> clause = new ArrayList<>();
        for (int i = 1 + random.nextInt(most); i > 0; i--) {
            int l = drawLiteral(variables);
            if (!clause.contains(l) && !clause.contains(-l)) {
                clause.add(l);
            }
        }
        return clause;
    }

    private List<List<Integer>> drawFormula(int variables) {
        List<List<Integer>> formula = new ArrayList<>();
        int core = random.nextInt(4);
        // All signs of some variables: not to be refuted by propagation alone.
        if (core > 0) {
            List<Integer> names = new ArrayList<>();
            for (int v = 1; v <= variables; v++) {
                names.add(v);
            }
            Collections.shuffle(names, random);
            int wide = Math.min(variables, core == 3 ? 3 : 2);
            for (int signs = 0; signs < 1 << wide; signs++) {
                List<Integer> clause = new ArrayList<>();
                for (int i = 0; i < wide; i++) {
                    clause.add((signs >> i & 1) == 0 ? names.get(i) : -names.get(i));
                }
                Collections.shuffle(clause, random);
                formula.add(clause);
            }
        }
        for (int i = random.nextInt(17 - formula.size()); i > 0; i--) {
            formula.add(random.nextInt(60) == 0 ? new ArrayList<>() : drawClause(variables, 4));
        }
        Collections.shuffle(formula, random);
        return formula;
    }

    private String drawGap() {
        return switch (random.nextInt(8)) {
            case 0 -> "\n";
            case 1 -> "  ";
            default -> " ";
        };
    }

    private String inCharacters(List<Integer> clause) {
        StringBuilder row = new StringBuilder();
        for (int l : clause) {
            row.append(l).append(drawGap());
        }
        return row.append("0").append(drawGap()).toString();
    }

    private static void packed(StringBuilder row, boolean deletes, List<Integer> clause) {
        row.append(deletes ? 'd' : 'a');
        for (int l : clause) {
            row.append((char) (l > 0 ? 2 * l : 1 - 2 * l));
        }
        row.append((char) 0);
    }

    /** Now and then one character is another one, so that the text may be none. */
    private String perhapsSpoilt(String text) {
        if (text.isEmpty() || random.nextInt(12) != 0) {
            return text;
        }
        StringBuilder row = new StringBuilder(text);
        String characters = "0123456789- \ndapcnf\t\0x\u00ff";
        row.setCharAt(random.nextInt(row.length()), characters.charAt(random.nextInt(characters.length())));
        return row.toString();
    }

    /** Types by the program and by the model, in pieces of any width. */
    private void type(String text) {
        int at = 0;
        while (at < text.length()) {
            int n = Math.min(5 + random.nextInt(4), text.length() - at);
            long bytes = random.nextLong();
            for (int i = 0; i < n; i++) {
                bytes = bytes << 8 | text.charAt(at + i);
            }
            long row = bytes;
            same("type(" + row + ", " + n + ")", x.type(row, n), m.type(row, n));
            at += n;
        }
    }

    // ---- playing

    private void same(String call, Object got, Object want) {
        calls++;
        Due.due(run + ", call " + calls + ": " + call, got, want);
        if (calls == MOST_CALLS) {
            throw new RunEnds();
        }
    }

    private void takeFormula(List<List<Integer>> formula, int variables) {
        while (true) {
            StringBuilder row = new StringBuilder();
            row.append("p").append(drawGap()).append("cnf").append(drawGap()).append(variables).append(drawGap());
            row.append(formula.size()).append(drawGap());
            for (List<Integer> clause : formula) {
                row.append(inCharacters(clause));
            }
            type(perhapsSpoilt(row.toString()));
            String want = Due.answer(m::formula);
            same("formula()", Due.answer(x::formula), want);
            if (!want.equals(Due.ARGUMENT)) {
                formulaClauses = Integer.parseInt(want);
                return;
            }
            same("wipe()", x.wipe(), m.wipe());
            if (row.length() > 200) {
                formula.remove(0);
            }
        }
    }

    private void takeProof(int variables) {
        boolean inBytes = random.nextBoolean();
        String text = drawProof(inBytes, variables);
        type(perhapsSpoilt(text));
        boolean asked = random.nextInt(20) == 0 ? !inBytes : inBytes;
        String want = Due.answer(() -> m.proof(asked));
        same("proof(" + asked + ")", Due.answer(() -> x.proof(asked)), want);
        if (want.equals(Due.ARGUMENT)) {
            same("wipe()", x.wipe(), m.wipe());
        }
    }

    /** A proof whose added clauses are mostly right, drawn step by step with another model. */
    private String drawProof(boolean inBytes, int variables) {
        Model draft = new Model();
        StringBuilder words = new StringBuilder();
        StringBuilder bytes = new StringBuilder();
        List<List<Integer>> here = new ArrayList<>();
        StringBuilder all = new StringBuilder("p cnf 8 " + formulaClauses);
        for (int c = 1; c <= formulaClauses; c++) {
            List<Integer> clause = new ArrayList<>();
            for (int k = 0; k < m.size(c); k++) {
                clause.add(m.literal(c, k));
            }
            here.add(clause);
            all.append(' ').append(String.join(" ", clause.stream().map(String::valueOf).toList())).append(" 0");
        }
        typeDraft(draft, all.toString().replaceAll(" +", " "));
        if (Due.answer(draft::formula).equals(Due.ARGUMENT)) {
            return "";
        }
        int most = 2 + random.nextInt(15);
        boolean ended = false;
        for (int s = 0; s < most; s++) {
            draft.wipe();
            typeDraft(draft, bytes.toString());
            draft.proof(true);
            boolean deletes = random.nextInt(6) == 0 && !ended;
            List<Integer> clause = deletes ? drawDeleted(here) : drawAdded(draft, here, variables);
            if (s == most - 1 && !ended && random.nextInt(10) != 0) {
                deletes = false;
                clause = List.of();
            }
            ended |= clause.isEmpty() && !deletes;
            String line = (deletes ? "d" + drawGap() : "") + inCharacters(clause);
            StringBuilder packed = new StringBuilder();
            packed(packed, deletes, clause);
            if (words.length() + line.length() > 250 || bytes.length() + packed.length() > 250) {
                break;
            }
            words.append(line);
            bytes.append(packed);
            if (!deletes) {
                here.add(clause);
            }
        }
        return inBytes ? bytes.toString() : words.toString();
    }

    private static void typeDraft(Model draft, String text) {
        for (int i = 0; i < text.length(); i++) {
            draft.type(text.charAt(i), 1);
        }
    }

    private List<Integer> drawDeleted(List<List<Integer>> here) {
        List<Integer> clause = new ArrayList<>();
        if (!here.isEmpty() && random.nextInt(6) != 0) {
            clause.addAll(here.get(random.nextInt(here.size())));
            Collections.shuffle(clause, random);
        } else {
            clause.addAll(drawClause(8, 2));
        }
        return clause;
    }

    private List<Integer> drawAdded(Model draft, List<List<Integer>> here, int variables) {
        if (random.nextInt(3) == 0 && draft.wouldBeRight(List.of())) {
            return List.of();
        }
        List<Integer> clause = List.of();
        boolean byPivot = random.nextInt(3) == 0;
        for (int i = 0; i < 40; i++) {
            int kind = random.nextInt(10);
            clause = kind == 0 ? drawClause(8, 8) : kind < 4 ? drawClause(8, 3)
                : kind < 7 ? drawClause(variables, 2) : resolvent(here, variables);
            boolean anyway = random.nextInt(150) == 0;
            int partners = draft.partnersSettled + draft.partnersTried;
            if (anyway || !clause.isEmpty() && draft.wouldBeRight(clause)
                && (!byPivot || i > 30 || draft.partnersSettled + draft.partnersTried > partners)) {
                return clause;
            }
        }
        return clause;
    }

    private List<Integer> resolvent(List<List<Integer>> here, int variables) {
        for (int i = 0; i < 20 && here.size() > 1; i++) {
            // The latest ones more often, so that what is added is needed.
            int latest = Math.max(0, here.size() - 3);
            List<Integer> one = here.get(random.nextBoolean() ? latest : random.nextInt(here.size()));
            List<Integer> other = here.get(random.nextInt(here.size()));
            List<Integer> both = new ArrayList<>();
            int met = 0;
            for (int l : one) {
                if (other.contains(-l)) {
                    met++;
                } else {
                    both.add(l);
                }
            }
            for (int l : other) {
                if (!one.contains(-l) && !both.contains(l)) {
                    both.add(l);
                }
            }
            if (met == 1 && !both.isEmpty()) {
                Collections.shuffle(both, random);
                return both;
            }
        }
        return drawClause(variables, 3);
    }

    private void checkAndAsk() {
        askSome(16);
        String want = Due.answer(m::check);
        same("check()", Due.answer(x::check), want);
        if (m.isChecked()) {
            refuted++;
        } else if (want.startsWith("-") && !want.equals("-1000")) {
            wrong++;
        }
        askSome(5);
        verifyAndWrite();
        if (m.isChecked()) {
            same("verify() of what is checked", x.verify(), 0);
            turnTwo();
            for (int i = random.nextInt(8); i > 0; i--) {
                pokeAndVerify();
            }
        }
    }

    private void verifyAndWrite() {
        same("verify()", Due.answer(x::verify), Due.answer(m::verify));
        String length = Due.answer(m::write);
        same("write()", Due.answer(x::write), length);
        int end = length.equals(Due.STATE) ? 8 : Integer.parseInt(length);
        for (int i = -1; i <= end; i++) {
            if (i == end || drawn(4)) {
                same("written(" + i + ")", x.written(i), m.written(i));
            }
        }
    }

    /** Turns two hints that follow one another, which may be good or bad. */
    private void turnTwo() {
        for (int c = formulaClauses + 1; c <= m.clauses(); c++) {
            for (int k = 0; k + 1 < m.hints(c); k++) {
                if (!drawn(3)) {
                    continue;
                }
                int first = m.hint(c, k);
                int second = m.hint(c, k + 1);
                pokeBoth(c, k, second, first);
                String want = Due.answer(m::verify);
                same("verify() with " + k + " of " + c + " turned", Due.answer(x::verify), want);
                stillGood += want.equals("0") ? 1 : 0;
                pokeBoth(c, k, first, second);
            }
        }
    }

    private void pokeBoth(int c, int k, int first, int second) {
        same("poke", x.poke(c, k, first), m.poke(c, k, first));
        same("poke", x.poke(c, k + 1, second), m.poke(c, k + 1, second));
    }

    private void pokeAndVerify() {
        int c = m.clauses() - random.nextInt(Math.min(16, m.clauses()));
        int k = m.hints(c) == 0 ? 0 : random.nextInt(m.hints(c));
        int before = m.hint(c, k);
        int h = switch (random.nextInt(6)) {
            case 0 -> -before;
            case 1 -> m.hint(c, random.nextInt(1 + m.hints(c)));
            case 2 -> random.nextInt();
            default -> random.nextInt(m.clauses() + 2) * (random.nextInt(3) == 0 ? -1 : 1);
        };
        same("poke(" + c + ", " + k + ", " + h + ")", x.poke(c, k, h), m.poke(c, k, h));
        String want = Due.answer(m::verify);
        same("verify()", Due.answer(x::verify), want);
        if (want.equals("0") && h != before && k < m.hints(c)) {
            stillGood++;
        } else if (!want.equals("0")) {
            bad++;
        }
        if (random.nextInt(4) != 0) {
            same("poke back", x.poke(c, k, before), m.poke(c, k, before));
        }
        same("hint after poke", x.hint(c, k), m.hint(c, k));
    }

    /** One time of so many. */
    private boolean drawn(int times) {
        return random.nextInt(times) == 0;
    }

    /** Asks one of so many questions that have no effect. */
    private void askSome(int times) {
        same("clauses()", x.clauses(), m.clauses());
        int allHints = 0;
        for (int c = -1; c <= 34; c++) {
            allHints += m.hints(c);
            if (drawn(times)) {
                same("size(" + c + ")", x.size(c), m.size(c));
            }
            if (drawn(times)) {
                same("marked(" + c + ")", x.marked(c), m.marked(c));
            }
            if (drawn(times)) {
                askRow(c);
            }
        }
        mostHints = Math.max(mostHints, allHints);
        for (int s = -1; s <= 17; s++) {
            if (drawn(times)) {
                same("step(" + s + ")", x.step(s), m.step(s));
            }
        }
    }

    private void askRow(int c) {
        same("hints(" + c + ")", x.hints(c), m.hints(c));
        for (int k = -1; k <= Math.max(0, m.size(c)); k++) {
            same("literal(" + c + ", " + k + ")", x.literal(c, k), m.literal(c, k));
        }
        for (int k = -1; k <= m.hints(c); k++) {
            same("hint(" + c + ", " + k + ")", x.hint(c, k), m.hint(c, k));
        }
    }

    /** A run has had all its calls. */
    private static final class RunEnds extends RuntimeException {
        private static final long serialVersionUID = 1L;

        RunEnds() {
            super(null, null, false, false);
        }
    }
}
