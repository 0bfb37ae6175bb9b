/**
 * Checks a refutation of a formula from its end to its beginning, keeps from what each needed clause
 * follows, writes the proof without what is not needed, and checks all that once more from the front.
 *
 * A set of literals is an int: bit v - 1 stands for v, bit v + 7 for -v. A set of clauses is a long:
 * bit c stands for the clause with number c; bit 0, of no clause, is never looked at.
 */
public final class ProofTrimmer {
    /** There is none. */
    public static final int NONE = -1000;

    private static final int MOST_BYTES = 250;
    private static final int VARIABLES = 8;
    private static final int MOST_CLAUSES = 16;
    private static final int MOST_STEPS = 16;
    private static final int MOST_NUMBER = MOST_CLAUSES + MOST_STEPS;
    // A step is written with at most "d ", three characters for each literal, "0" and a line end.
    private static final int MOST_WRITTEN = MOST_STEPS * (3 * VARIABLES + 4);
    // A clause with P partners has at most 8 * P hints (8 without one): each partner's number, at most 6
    // reasons (the pivot's variable and one of the partner's are assumed) and a conflict. The added
    // clause j has at most 8 + j partners, since of the 15 + j before it 7 are those reasons and that
    // conflict. The sum over j = 1 .. 15 is 1920, and the empty clause has at most 9.
    private static final int MOST_HINTS = 2048;
    private static final int BLANK = 32;
    private static final int LINE_END = 10;
    private static final int PACKED_ADDS = 97;
    private static final int PACKED_DELETES = 100;

    private final Text text;
    private final Text output;
    private final Draft draft;
    private final Clauses clauses;
    private final Steps steps;
    private final Trace trace;
    private final Assignment assignment;
    private boolean hasFormula;
    private boolean hasProof;
    private int formulaClauses;

    public ProofTrimmer() {
        text = new Text(MOST_BYTES);
        output = new Text(MOST_WRITTEN);
        draft = new Draft();
        clauses = new Clauses(MOST_NUMBER);
        steps = new Steps();
        trace = new Trace();
        assignment = new Assignment();
    }

    public int type(long bytes, int n) {
        if (n < 1 || n > 8 || text.length + n > MOST_BYTES) {
            return NONE;
        }
        for (int i = n - 1; i >= 0; i--) {
            text.put((int) (bytes >>> (8 * i)) & 255);
        }
        return text.length;
    }

    public int wipe() {
        int had = text.length;
        text.clear();
        return had;
    }

    public int formula() throws IllegalArgumentException {
        if (!draft.readFormula(new Words(text))) {
            throw new IllegalArgumentException("The text is no formula.");
        }
        text.clear();
        clauses.keep(0);
        for (int c = 1; c <= draft.rows.count; c++) {
            clauses.copy(draft.rows, c);
        }
        formulaClauses = clauses.count;
        hasFormula = true;
        hasProof = false;
        steps.forget();
        trace.forget();
        return formulaClauses;
    }

    public int proof(boolean packed) throws IllegalStateException, IllegalArgumentException {
        if (!hasFormula) {
            throw new IllegalStateException("There is no formula.");
        }
        if (packed ? !draft.readPacked(text) : !draft.readProof(new Words(text))) {
            throw new IllegalArgumentException("The text is no proof of that kind.");
        }
        text.clear();
        clauses.keep(formulaClauses);
        steps.settle(draft, clauses);
        hasProof = true;
        trace.forget();
        return draft.rows.count;
    }

    public int check() throws IllegalStateException {
        if (!hasProof) {
            throw new IllegalStateException("There is no proof.");
        }
        trace.forget();
        if (steps.open) {
            return NONE;
        }
        int wrong = new Checker(clauses, steps, trace, assignment).goBack(formulaClauses);
        if (wrong != 0) {
            trace.forget();
            return -wrong;
        }
        trace.checked = true;
        return Long.bitCount(trace.markedOnes & ~firstOnes(formulaClauses));
    }

    public int clauses() {
        return clauses.count;
    }

    public int size(int c) {
        return clauses.has(c) ? clauses.sizes[c] : NONE;
    }

    public int literal(int c, int k) {
        return clauses.literalAt(c, k);
    }

    public int step(int s) {
        return s >= 1 && s <= steps.count ? steps.numbers[s] : NONE;
    }

    public boolean marked(int c) {
        return clauses.has(c) && contains(trace.markedOnes, c);
    }

    public int hints(int c) {
        return trace.countOf(c);
    }

    public int hint(int c, int k) {
        return trace.hintAt(c, k);
    }

    public boolean poke(int c, int k, int h) {
        return trace.replace(c, k, h);
    }

    public int verify() throws IllegalStateException {
        if (!trace.checked) {
            throw new IllegalStateException("Nothing is checked.");
        }
        return new Verifier(clauses, steps, trace, assignment).firstBad(formulaClauses);
    }

    public int write() throws IllegalStateException {
        if (!trace.checked) {
            throw new IllegalStateException("Nothing is checked.");
        }
        output.clear();
        for (int s = 1; s <= steps.count; s++) {
            int c = steps.numbers[s];
            boolean ofFormula = c >= 1 && c <= formulaClauses;
            if (ofFormula || contains(trace.markedOnes, c)) {
                writeStep(steps.deleting[s], c);
            }
        }
        return output.length;
    }

    public int written(int i) {
        return output.at(i);
    }

    private void writeStep(boolean deletes, int c) {
        if (deletes) {
            output.put('d');
            output.put(BLANK);
        }
        for (int k = 0; k < clauses.sizes[c]; k++) {
            int literal = clauses.literalAt(c, k);
            if (literal < 0) {
                output.put('-');
            }
            output.put('0' + Math.abs(literal));
            output.put(BLANK);
        }
        output.put('0');
        output.put(LINE_END);
    }

    private static int only(int literal) {
        return 1 << (literal > 0 ? literal - 1 : VARIABLES - 1 - literal);
    }

    private static int opposites(int literals) {
        return literals >>> VARIABLES | (literals << VARIABLES & 0xff00);
    }

    private static long one(int c) {
        return 1L << c;
    }

    private static long firstOnes(int many) {
        return (1L << (many + 1)) - 2;
    }

    private static boolean contains(long ones, int c) {
        return (ones & 1L << c) != 0;
    }

    /** A row of bytes that grows up to a limit. */
    private static final class Text {
        private final int[] row;
        private int length;

        Text(int most) {
            row = new int[most];
        }

        void clear() {
            length = 0;
        }

        void put(int character) {
            if (length < row.length) {
                row[length] = character;
                length++;
            }
        }

        int at(int i) {
            return i >= 0 && i < length ? row[i] : NONE;
        }
    }

    /** Stands at one word of a text after the other, and behind the last one at none. */
    private static final class Words {
        private final Text text;
        private int start;
        private int end;

        Words(Text text) {
            this.text = text;
            start = gapsEnd(text, 0);
            end = wordsEnd(text, start);
        }

        boolean hasWord() {
            return start < end;
        }

        void advance() {
            start = gapsEnd(text, end);
            end = wordsEnd(text, start);
        }

        /** Goes on if it stands at this word. */
        boolean skip(String word) {
            if (end - start != word.length()) {
                return false;
            }
            for (int i = 0; i < word.length(); i++) {
                if (text.at(start + i) != word.charAt(i)) {
                    return false;
                }
            }
            advance();
            return true;
        }

        /** The integer that it stands at, or NONE, which has too many digits to be one. */
        int integer() {
            boolean negative = text.at(start) == '-';
            int first = negative ? start + 1 : start;
            if (first >= end || end - start > 3) {
                return NONE;
            }
            if (text.at(first) == '0' && end - start > 1) {
                return NONE;
            }
            int value = 0;
            for (int i = first; i < end; i++) {
                int digit = text.at(i) - '0';
                if (digit < 0 || digit > 9) {
                    return NONE;
                }
                value = value * 10 + digit;
            }
            return negative ? -value : value;
        }

        private static int gapsEnd(Text text, int from) {
            int at = from;
            while (at < text.length && (text.at(at) == BLANK || text.at(at) == LINE_END)) {
                at++;
            }
            return at;
        }

        private static int wordsEnd(Text text, int from) {
            int at = from;
            while (at < text.length && text.at(at) != BLANK && text.at(at) != LINE_END) {
                at++;
            }
            return at;
        }
    }

    /** Clauses by their numbers from 1 on. */
    private static final class Clauses {
        private final int[] sizes;
        private final int[] sets;
        private final int[] literals;
        private int count;

        Clauses(int most) {
            sizes = new int[most + 1];
            sets = new int[most + 1];
            literals = new int[(most + 1) * VARIABLES];
        }

        boolean has(int c) {
            return c >= 1 && c <= count;
        }

        int literalAt(int c, int k) {
            return has(c) && k >= 0 && k < sizes[c] ? literals[c * VARIABLES + k] : 0;
        }

        /** Forgets all but the first ones. */
        void keep(int many) {
            count = many;
        }

        /** Begins an empty clause, if there is room. */
        boolean begin() {
            if (count + 1 >= sizes.length) {
                return false;
            }
            count++;
            sizes[count] = 0;
            sets[count] = 0;
            return true;
        }

        /** Appends a literal to the last clause, if it may stand there. */
        boolean append(int literal) {
            int variable = Math.abs(literal);
            if (count < 1 || variable < 1 || variable > VARIABLES) {
                return false;
            }
            if ((sets[count] & (only(variable) | only(-variable))) != 0) {
                return false;
            }
            literals[count * VARIABLES + sizes[count]] = literal;
            sizes[count]++;
            sets[count] |= only(literal);
            return true;
        }

        void copy(Clauses from, int c) {
            if (!from.has(c) || !begin()) {
                return;
            }
            for (int k = 0; k < from.sizes[c]; k++) {
                append(from.literalAt(c, k));
            }
        }

        /** The greatest number among these ones whose clause has just these literals, or 0. */
        int greatestAlike(long ones, int set) {
            for (int c = count; c >= 1; c--) {
                if (contains(ones, c) && sets[c] == set) {
                    return c;
                }
            }
            return 0;
        }
    }

    /** What is read from a text, kept apart so that a wrong text changes nothing else. */
    private static final class Draft {
        private final Clauses rows;
        private final boolean[] deleting;

        Draft() {
            rows = new Clauses(Math.max(MOST_CLAUSES, MOST_STEPS));
            deleting = new boolean[MOST_STEPS + 1];
        }

        boolean readFormula(Words words) {
            rows.keep(0);
            if (!words.skip("p") || !words.skip("cnf")) {
                return false;
            }
            int variables = words.integer();
            words.advance();
            int many = words.integer();
            words.advance();
            if (variables < 1 || variables > VARIABLES || many < 0 || many > MOST_CLAUSES) {
                return false;
            }
            for (int c = 1; c <= many; c++) {
                if (!readClause(words, variables)) {
                    return false;
                }
            }
            return !words.hasWord();
        }

        boolean readProof(Words words) {
            rows.keep(0);
            for (int s = 1; s <= MOST_STEPS && words.hasWord(); s++) {
                deleting[s] = words.skip("d");
                if (!readClause(words, VARIABLES)) {
                    return false;
                }
            }
            return !words.hasWord();
        }

        boolean readPacked(Text text) {
            rows.keep(0);
            int at = 0;
            for (int s = 1; s <= MOST_STEPS && at < text.length; s++) {
                int kind = text.at(at);
                if (kind != PACKED_ADDS && kind != PACKED_DELETES) {
                    return false;
                }
                deleting[s] = kind == PACKED_DELETES;
                at = readPackedClause(text, at + 1);
                if (at == NONE) {
                    return false;
                }
            }
            return at == text.length;
        }

        private boolean readClause(Words words, int variables) {
            if (!rows.begin()) {
                return false;
            }
            for (int k = 0; k <= VARIABLES; k++) {
                int read = words.integer();
                words.advance();
                if (read == 0) {
                    return true;
                }
                if (Math.abs(read) > variables || !rows.append(read)) {
                    return false;
                }
            }
            return false;
        }

        /** Where the clause that begins at a byte has ended, or NONE if there is no clause. */
        private int readPackedClause(Text text, int from) {
            if (!rows.begin()) {
                return NONE;
            }
            for (int at = from; at <= from + VARIABLES; at++) {
                int code = text.at(at);
                if (code == 0) {
                    return at + 1;
                }
                int variable = code >> 1;
                if (!rows.append((code & 1) == 0 ? variable : -variable)) {
                    return NONE;
                }
            }
            return NONE;
        }
    }

    /** The steps that count, from 1 on: what each does, and the clause that it added or took. */
    private static final class Steps {
        private final boolean[] deleting;
        private final int[] numbers;
        private int count;
        private boolean open;

        Steps() {
            deleting = new boolean[MOST_STEPS + 1];
            numbers = new int[MOST_STEPS + 1];
        }

        void forget() {
            count = 0;
            open = true;
        }

        /** Takes over the steps that were read, up to the one that counts last; clauses has the formula's. */
        void settle(Draft draft, Clauses clauses) {
            forget();
            long live = firstOnes(clauses.count);
            for (int s = 1; s <= draft.rows.count && s <= MOST_STEPS && open; s++) {
                deleting[s] = draft.deleting[s];
                if (deleting[s]) {
                    numbers[s] = clauses.greatestAlike(live, draft.rows.sets[s]);
                    live &= ~one(numbers[s]);
                } else {
                    clauses.copy(draft.rows, s);
                    numbers[s] = clauses.count;
                    live |= one(numbers[s]);
                    open = draft.rows.sizes[s] != 0;
                }
                count = s;
            }
        }

        long liveAfterAll(int formulaClauses) {
            long live = firstOnes(formulaClauses);
            for (int s = 1; s <= count; s++) {
                live = deleting[s] ? live & ~one(numbers[s]) : live | one(numbers[s]);
            }
            return live;
        }
    }

    /** What a check leaves: the marked clauses, and the hints of each, all in one row. */
    private static final class Trace {
        private final int[] starts;
        private final int[] counts;
        private final int[] row;
        private int filled;
        private long markedOnes;
        private boolean checked;

        Trace() {
            starts = new int[MOST_NUMBER + 1];
            counts = new int[MOST_NUMBER + 1];
            row = new int[MOST_HINTS];
        }

        void forget() {
            filled = 0;
            markedOnes = 0;
            checked = false;
            for (int c = 0; c <= MOST_NUMBER; c++) {
                counts[c] = 0;
            }
        }

        /** The next hints are those of this clause. */
        void begin(int c) {
            starts[c] = filled;
        }

        void append(int c, int value) {
            if (filled < row.length) {
                row[filled] = value;
                filled++;
                counts[c]++;
            }
        }

        int countOf(int c) {
            return c >= 1 && c <= MOST_NUMBER ? counts[c] : 0;
        }

        int hintAt(int c, int k) {
            return k >= 0 && k < countOf(c) ? row[starts[c] + k] : 0;
        }

        boolean replace(int c, int k, int value) {
            if (k < 0 || k >= countOf(c)) {
                return false;
            }
            row[starts[c] + k] = value;
            return true;
        }
    }

    /** Which literals are true and false, and the reasons in the order in which they became so. */
    private static final class Assignment {
        private final int[] reasons;
        private final int[] implied;
        private int count;
        private int truths;
        private int falsehoods;

        Assignment() {
            reasons = new int[VARIABLES];
            implied = new int[VARIABLES];
        }

        /** Only these literals are true then, and only so many of the reasons are kept. */
        void restart(int literals, int many) {
            truths = literals;
            falsehoods = opposites(literals);
            count = many;
        }

        /** Whether none of the literals is true and at most one is neither. */
        boolean isReady(int literals) {
            int neither = literals & ~falsehoods;
            return (literals & truths) == 0 && (neither & neither - 1) == 0;
        }

        /** Makes the one literal of a ready clause that is neither true: false when there is none. */
        boolean follow(int literals, int reason) {
            int neither = literals & ~falsehoods;
            if (neither == 0 || count >= VARIABLES) {
                return false;
            }
            truths |= neither;
            falsehoods |= opposites(neither);
            reasons[count] = reason;
            implied[count] = neither;
            count++;
            return true;
        }

        /** The clauses used in a conflict. A reason's false literals were so before it: one way back is enough. */
        long usedFor(int conflict, int[] sets) {
            long used = one(conflict);
            int looked = sets[conflict];
            for (int i = count - 1; i >= 0; i--) {
                if ((looked & opposites(implied[i])) != 0) {
                    used |= one(reasons[i]);
                    looked |= sets[reasons[i]];
                }
            }
            return used;
        }
    }

    /** Goes over the steps from the last one to the first. */
    private static final class Checker {
        private final Clauses clauses;
        private final Steps steps;
        private final Trace trace;
        private final Assignment assignment;
        private long live;

        Checker(Clauses clauses, Steps steps, Trace trace, Assignment assignment) {
            this.clauses = clauses;
            this.steps = steps;
            this.trace = trace;
            this.assignment = assignment;
        }

        /** Fills the trace: 0, or the step whose clause is wrong. */
        int goBack(int formulaClauses) {
            live = steps.liveAfterAll(formulaClauses);
            trace.markedOnes = one(clauses.count);
            for (int s = steps.count; s >= 1; s--) {
                int c = steps.numbers[s];
                if (steps.deleting[s]) {
                    live |= one(c);
                } else {
                    live &= ~one(c);
                    if (contains(trace.markedOnes, c) && !isRight(c)) {
                        return s;
                    }
                }
            }
            return 0;
        }

        private boolean isRight(int c) {
            trace.begin(c);
            assignment.restart(opposites(clauses.sets[c]), 0);
            int conflict = propagate();
            if (conflict != 0) {
                trace.markedOnes |= explain(c, 0, conflict);
                return true;
            }
            return clauses.sizes[c] != 0 && settlesPartners(c);
        }

        private boolean settlesPartners(int c) {
            int reached = assignment.truths;
            int reasons = assignment.count;
            long used = 0;
            for (int i = 0; i < reasons; i++) {
                trace.append(c, assignment.reasons[i]);
                used |= one(assignment.reasons[i]);
            }
            int pivotsOpposite = only(-clauses.literalAt(c, 0));
            for (int p = 1; p <= clauses.count; p++) {
                if (!contains(live, p) || (clauses.sets[p] & pivotsOpposite) == 0) {
                    continue;
                }
                trace.append(c, -p);
                used |= one(p);
                int others = clauses.sets[p] & ~pivotsOpposite;
                if ((others & reached) != 0) {
                    continue;
                }
                assignment.restart(reached | opposites(others), reasons);
                int conflict = propagate();
                if (conflict == 0) {
                    return false;
                }
                used |= explain(c, reasons, conflict);
            }
            // Not before: what is marked is taken first, and all partners are to be tried alike.
            trace.markedOnes |= used;
            return true;
        }

        /** Appends the used reasons from one on, and the conflict, to the hints of c: all that are used. */
        private long explain(int c, int from, int conflict) {
            long used = assignment.usedFor(conflict, clauses.sets);
            for (int i = from; i < assignment.count; i++) {
                if (contains(used, assignment.reasons[i])) {
                    trace.append(c, assignment.reasons[i]);
                }
            }
            trace.append(c, conflict);
            return used;
        }

        /** The clause of the conflict, or 0. Each round but the last one gives a variable its value. */
        private int propagate() {
            for (int round = 0; round <= VARIABLES; round++) {
                int c = firstReady(live & trace.markedOnes);
                if (c == 0) {
                    c = firstReady(live & ~trace.markedOnes);
                }
                if (c == 0) {
                    return 0;
                }
                if (!assignment.follow(clauses.sets[c], c)) {
                    return c;
                }
            }
            return 0;
        }

        private int firstReady(long ones) {
            for (int c = 1; c <= clauses.count; c++) {
                if (contains(ones, c) && assignment.isReady(clauses.sets[c])) {
                    return c;
                }
            }
            return 0;
        }
    }

    /** Goes over the steps from the first one to the last, by the hints alone. */
    private static final class Verifier {
        private final Clauses clauses;
        private final Steps steps;
        private final Trace trace;
        private final Assignment assignment;
        private long live;
        private int next;
        private boolean conflict;

        Verifier(Clauses clauses, Steps steps, Trace trace, Assignment assignment) {
            this.clauses = clauses;
            this.steps = steps;
            this.trace = trace;
            this.assignment = assignment;
        }

        int firstBad(int formulaClauses) {
            live = firstOnes(formulaClauses);
            for (int s = 1; s <= steps.count; s++) {
                int c = steps.numbers[s];
                if (steps.deleting[s]) {
                    live &= ~one(c);
                } else if (contains(trace.markedOnes, c)) {
                    if (!isGood(c)) {
                        return c;
                    }
                    live |= one(c);
                }
            }
            return 0;
        }

        private boolean isGood(int c) {
            next = 0;
            assignment.restart(opposites(clauses.sets[c]), 0);
            if (!followsPositives(c)) {
                return false;
            }
            if (!conflict && (clauses.sizes[c] == 0 || !followsPartners(c))) {
                return false;
            }
            return next == trace.countOf(c);
        }

        private boolean followsPartners(int c) {
            int reached = assignment.truths;
            int pivotsOpposite = only(-clauses.literalAt(c, 0));
            for (int p = 1; p <= clauses.count; p++) {
                if (!contains(live, p) || (clauses.sets[p] & pivotsOpposite) == 0) {
                    continue;
                }
                if (trace.hintAt(c, next) != -p) {
                    return false;
                }
                next++;
                int others = clauses.sets[p] & ~pivotsOpposite;
                if ((others & reached) != 0) {
                    continue;
                }
                assignment.restart(reached | opposites(others), 0);
                if (!followsPositives(c) || !conflict) {
                    return false;
                }
            }
            return true;
        }

        /** Follows hints as long as they are above 0: whether each may stand there, a conflict as the last one. */
        private boolean followsPositives(int c) {
            conflict = false;
            while (next < trace.countOf(c) && trace.hintAt(c, next) > 0) {
                int h = trace.hintAt(c, next);
                if (conflict || !clauses.has(h) || !contains(live, h) || !assignment.isReady(clauses.sets[h])) {
                    return false;
                }
                conflict = !assignment.follow(clauses.sets[h], h);
                next++;
            }
            return true;
        }
    }
}
