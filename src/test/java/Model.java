import java.util.ArrayList;
import java.util.HashMap;
import java.util.HashSet;
import java.util.LinkedHashSet;
import java.util.List;
import java.util.Map;
import java.util.Set;
import java.util.TreeMap;
import java.util.TreeSet;

/** The document word by word, with the library's collections: slow, and made in another way than the program. */
final class Model {
    private static final int NONE = -1000;

    private record Step(boolean deletes, List<Integer> clause) {
    }

    private record Outcome(Map<Integer, Integer> reasons, List<Integer> order, Set<Integer> truths, int conflict) {
    }

    private final List<Integer> text = new ArrayList<>();
    private List<List<Integer>> formula;
    private List<Step> proof;
    private List<Step> counting = List.of();
    private final List<List<Integer>> all = new ArrayList<>();
    private final List<Integer> stepNumbers = new ArrayList<>();
    private boolean open;
    private boolean checked;
    private final Set<Integer> marks = new TreeSet<>();
    private final Map<Integer, List<Integer>> hints = new TreeMap<>();
    private String written = "";

    int partnersSettled = 0;
    int partnersTried = 0;

    int type(long bytes, int n) {
        if (n < 1 || n > 8 || text.size() + n > 250) {
            return NONE;
        }
        for (int i = 1; i <= n; i++) {
            text.add((int) ((bytes >> (n - i) * 8) & 0xff));
        }
        return text.size();
    }

    int wipe() {
        int had = text.size();
        text.clear();
        return had;
    }

    // ---- reading

    private List<String> words() {
        StringBuilder characters = new StringBuilder();
        for (int b : text) {
            characters.append((char) b);
        }
        List<String> words = new ArrayList<>();
        for (String word : characters.toString().split("[ \n]")) {
            if (!word.isEmpty()) {
                words.add(word);
            }
        }
        return words;
    }

    private static int integer(List<String> words) {
        if (words.isEmpty()) {
            throw new IllegalArgumentException();
        }
        String word = words.remove(0);
        if (!word.matches("0|-?[1-9][0-9]*") || word.length() > 3) {
            throw new IllegalArgumentException();
        }
        return Integer.parseInt(word);
    }

    private static void word(List<String> words, String due) {
        if (words.isEmpty() || !words.remove(0).equals(due)) {
            throw new IllegalArgumentException();
        }
    }

    private static List<Integer> clause(List<String> words, int variables) {
        List<Integer> clause = new ArrayList<>();
        for (int l = integer(words); l != 0; l = integer(words)) {
            clause.add(l);
        }
        return admitted(clause, variables);
    }

    private static List<Integer> admitted(List<Integer> clause, int variables) {
        Set<Integer> seen = new HashSet<>();
        for (int l : clause) {
            if (l == 0 || Math.abs(l) > variables || !seen.add(Math.abs(l))) {
                throw new IllegalArgumentException();
            }
        }
        return clause;
    }

    int formula() {
        List<String> words = words();
        word(words, "p");
        word(words, "cnf");
        int variables = integer(words);
        int many = integer(words);
        if (variables < 1 || variables > 8 || many < 0 || many > 16) {
            throw new IllegalArgumentException();
        }
        List<List<Integer>> read = new ArrayList<>();
        for (int i = 0; i < many; i++) {
            read.add(clause(words, variables));
        }
        if (!words.isEmpty()) {
            throw new IllegalArgumentException();
        }
        formula = read;
        proof = null;
        counting = List.of();
        stepNumbers.clear();
        all.clear();
        all.addAll(formula);
        text.clear();
        nothingIsChecked();
        return many;
    }

    private List<Step> stepsInCharacters() {
        List<String> words = words();
        List<Step> steps = new ArrayList<>();
        while (!words.isEmpty()) {
            boolean deletes = words.get(0).equals("d");
            if (deletes) {
                words.remove(0);
            }
            steps.add(new Step(deletes, clause(words, 8)));
        }
        return steps;
    }

    private List<Step> stepsInBytes() {
        List<Integer> left = new ArrayList<>(text);
        List<Step> steps = new ArrayList<>();
        while (!left.isEmpty()) {
            int kind = left.remove(0);
            int end = left.indexOf(0);
            if (kind != 'a' && kind != 'd' || end < 0) {
                throw new IllegalArgumentException();
            }
            List<Integer> clause = new ArrayList<>();
            for (int code : left.subList(0, end)) {
                clause.add(code % 2 == 0 ? code / 2 : -(code / 2));
            }
            left = left.subList(end + 1, left.size());
            steps.add(new Step(kind == 'd', admitted(clause, 8)));
        }
        return steps;
    }

    int proof(boolean packed) {
        if (formula == null) {
            throw new IllegalStateException();
        }
        List<Step> read = packed ? stepsInBytes() : stepsInCharacters();
        if (read.size() > 16) {
            throw new IllegalArgumentException();
        }
        proof = read;
        text.clear();
        nothingIsChecked();
        countSteps();
        return proof.size();
    }

    private void countSteps() {
        int last = proof.size();
        open = true;
        for (int s = 0; s < proof.size() && open; s++) {
            if (!proof.get(s).deletes && proof.get(s).clause.isEmpty()) {
                last = s + 1;
                open = false;
            }
        }
        counting = proof.subList(0, last);
        all.clear();
        all.addAll(formula);
        stepNumbers.clear();
        TreeSet<Integer> live = formulaNumbers();
        for (Step step : counting) {
            if (step.deletes) {
                int taken = 0;
                for (int c : live) {
                    if (new HashSet<>(clauseOf(c)).equals(new HashSet<>(step.clause))) {
                        taken = c;
                    }
                }
                live.remove(taken);
                stepNumbers.add(taken);
            } else {
                all.add(step.clause);
                live.add(all.size());
                stepNumbers.add(all.size());
            }
        }
    }

    private TreeSet<Integer> formulaNumbers() {
        TreeSet<Integer> numbers = new TreeSet<>();
        for (int c = 1; c <= formula.size(); c++) {
            numbers.add(c);
        }
        return numbers;
    }

    private List<Integer> clauseOf(int c) {
        return all.get(c - 1);
    }

    private void nothingIsChecked() {
        checked = false;
        marks.clear();
        hints.clear();
    }

    // ---- checking

    private TreeSet<Integer> liveBefore(int s) {
        TreeSet<Integer> live = formulaNumbers();
        for (int t = 0; t < s; t++) {
            if (counting.get(t).deletes) {
                live.remove(stepNumbers.get(t));
            } else {
                live.add(stepNumbers.get(t));
            }
        }
        return live;
    }

    int check() {
        if (proof == null) {
            throw new IllegalStateException();
        }
        nothingIsChecked();
        if (open) {
            return NONE;
        }
        marks.add(all.size());
        for (int s = counting.size() - 1; s >= 0; s--) {
            int c = stepNumbers.get(s);
            if (!counting.get(s).deletes && marks.contains(c) && !tried(c, liveBefore(s))) {
                nothingIsChecked();
                return -(s + 1);
            }
        }
        checked = true;
        int many = 0;
        for (int c : marks) {
            many += c > formula.size() ? 1 : 0;
        }
        return many;
    }

    private boolean tried(int c, TreeSet<Integer> live) {
        Set<Integer> assumed = new LinkedHashSet<>();
        for (int l : clauseOf(c)) {
            assumed.add(-l);
        }
        Outcome first = propagate(new Outcome(Map.of(), List.of(), assumed, 0), live);
        List<Integer> list = new ArrayList<>();
        hints.put(c, list);
        if (first.conflict != 0) {
            Set<Integer> used = used(first);
            for (int r : first.order) {
                if (used.contains(r)) {
                    list.add(r);
                }
            }
            list.add(first.conflict);
            marks.addAll(used);
            return true;
        }
        if (clauseOf(c).isEmpty()) {
            return false;
        }
        Set<Integer> later = new TreeSet<>(first.order);
        list.addAll(first.order);
        int pivot = clauseOf(c).get(0);
        for (int p : live) {
            if (clauseOf(p).contains(-pivot)) {
                list.add(-p);
                later.add(p);
                if (!partnerSettled(p, pivot, first, live, list, later)) {
                    return false;
                }
            }
        }
        marks.addAll(later);
        return true;
    }

    private boolean partnerSettled(int p, int pivot, Outcome first, TreeSet<Integer> live, List<Integer> list,
            Set<Integer> later) {
        Set<Integer> truths = new LinkedHashSet<>(first.truths);
        for (int l : clauseOf(p)) {
            if (l != -pivot && first.truths.contains(l)) {
                partnersSettled++;
                return true;
            }
            if (l != -pivot) {
                truths.add(-l);
            }
        }
        Outcome second = propagate(new Outcome(first.reasons, first.order, truths, 0), live);
        if (second.conflict == 0) {
            return false;
        }
        partnersTried++;
        Set<Integer> used = used(second);
        for (int r : second.order.subList(first.order.size(), second.order.size())) {
            if (used.contains(r)) {
                list.add(r);
            }
        }
        list.add(second.conflict);
        later.addAll(used);
        return true;
    }

    private Outcome propagate(Outcome from, TreeSet<Integer> live) {
        Map<Integer, Integer> reasons = new HashMap<>(from.reasons);
        List<Integer> order = new ArrayList<>(from.order);
        Set<Integer> truths = new LinkedHashSet<>(from.truths);
        List<Integer> row = new ArrayList<>();
        for (int c : live) {
            if (marks.contains(c)) {
                row.add(c);
            }
        }
        for (int c : live) {
            if (!marks.contains(c)) {
                row.add(c);
            }
        }
        int at = 0;
        while (at < row.size()) {
            int c = row.get(at);
            List<Integer> neither = neither(c, truths);
            if (neither == null || neither.size() > 1) {
                at++;
            } else if (neither.isEmpty()) {
                return new Outcome(reasons, order, truths, c);
            } else {
                truths.add(neither.get(0));
                reasons.put(neither.get(0), c);
                order.add(c);
                at = 0;
            }
        }
        return new Outcome(reasons, order, truths, 0);
    }

    /** The literals that are neither true nor false; null when one is true. */
    private List<Integer> neither(int c, Set<Integer> truths) {
        List<Integer> neither = new ArrayList<>();
        for (int l : clauseOf(c)) {
            if (truths.contains(l)) {
                return null;
            }
            if (!truths.contains(-l)) {
                neither.add(l);
            }
        }
        return neither;
    }

    private Set<Integer> used(Outcome end) {
        Set<Integer> used = new TreeSet<>();
        List<Integer> waiting = new ArrayList<>(List.of(end.conflict));
        while (!waiting.isEmpty()) {
            int c = waiting.remove(0);
            if (used.add(c)) {
                for (int l : clauseOf(c)) {
                    if (end.truths.contains(-l) && end.reasons.containsKey(-l)) {
                        waiting.add(end.reasons.get(-l));
                    }
                }
            }
        }
        return used;
    }

    // ---- asking

    int clauses() {
        return all.size();
    }

    int size(int c) {
        return c < 1 || c > all.size() ? NONE : clauseOf(c).size();
    }

    int literal(int c, int k) {
        return k < 0 || k >= size(c) ? 0 : clauseOf(c).get(k);
    }

    int step(int s) {
        return s < 1 || s > stepNumbers.size() ? NONE : stepNumbers.get(s - 1);
    }

    boolean marked(int c) {
        return marks.contains(c);
    }

    int hints(int c) {
        return hints.getOrDefault(c, List.of()).size();
    }

    int hint(int c, int k) {
        return k < 0 || k >= hints(c) ? 0 : hints.get(c).get(k);
    }

    boolean poke(int c, int k, int h) {
        if (k < 0 || k >= hints(c)) {
            return false;
        }
        hints.get(c).set(k, h);
        return true;
    }

    // ---- the other way

    int verify() {
        if (!checked) {
            throw new IllegalStateException();
        }
        TreeSet<Integer> live = formulaNumbers();
        for (int s = 0; s < counting.size(); s++) {
            int c = stepNumbers.get(s);
            if (counting.get(s).deletes) {
                live.remove(c);
            } else if (marks.contains(c)) {
                if (!good(c, live)) {
                    return c;
                }
                live.add(c);
            }
        }
        return 0;
    }

    private boolean good(int c, TreeSet<Integer> live) {
        // The hints in parts: the front, and one part for each hint that is not above 0.
        List<List<Integer>> parts = new ArrayList<>();
        parts.add(new ArrayList<>());
        List<Integer> heads = new ArrayList<>();
        for (int h : hints.getOrDefault(c, List.of())) {
            if (h > 0) {
                parts.get(parts.size() - 1).add(h);
            } else {
                heads.add(h);
                parts.add(new ArrayList<>());
            }
        }
        Set<Integer> front = new HashSet<>();
        for (int l : clauseOf(c)) {
            front.add(-l);
        }
        String way = followed(parts.get(0), front, live);
        if (way.equals("conflict")) {
            return heads.isEmpty();
        }
        if (way.equals("bad") || clauseOf(c).isEmpty()) {
            return false;
        }
        int pivot = clauseOf(c).get(0);
        int at = 0;
        for (int p : live) {
            if (clauseOf(p).contains(-pivot)) {
                if (at >= heads.size() || heads.get(at) != -p) {
                    return false;
                }
                at++;
                Set<Integer> others = new HashSet<>(clauseOf(p));
                others.remove(-pivot);
                Set<Integer> truths = new HashSet<>(front);
                boolean settled = false;
                for (int l : others) {
                    settled |= front.contains(l);
                    truths.add(-l);
                }
                if (settled ? !parts.get(at).isEmpty() : !followed(parts.get(at), truths, live).equals("conflict")) {
                    return false;
                }
            }
        }
        return at == heads.size();
    }

    /** Changes truths; "conflict" when the last one is one, "bad" when one may not stand there, otherwise "on". */
    private String followed(List<Integer> part, Set<Integer> truths, TreeSet<Integer> live) {
        for (int i = 0; i < part.size(); i++) {
            int h = part.get(i);
            List<Integer> neither = live.contains(h) ? neither(h, truths) : null;
            if (neither == null || neither.size() > 1) {
                return "bad";
            }
            if (neither.isEmpty()) {
                return i == part.size() - 1 ? "conflict" : "bad";
            }
            truths.add(neither.get(0));
        }
        return "on";
    }

    // ---- writing

    int write() {
        if (!checked) {
            throw new IllegalStateException();
        }
        StringBuilder row = new StringBuilder();
        for (int s = 0; s < counting.size(); s++) {
            int c = stepNumbers.get(s);
            boolean deletes = counting.get(s).deletes;
            boolean needed = marks.contains(c) || deletes && c >= 1 && c <= formula.size();
            if (needed) {
                row.append(deletes ? "d " : "");
                for (int l : clauseOf(c)) {
                    row.append(l).append(' ');
                }
                row.append("0\n");
            }
        }
        written = row.toString();
        return written.length();
    }

    int written(int i) {
        return i < 0 || i >= written.length() ? NONE : written.charAt(i);
    }

    /** Whether a clause would be right behind the steps that are there, for drawing proofs that are. */
    boolean wouldBeRight(List<Integer> clause) {
        all.add(clause);
        TreeSet<Integer> live = liveBefore(counting.size());
        Set<Integer> keptMarks = new TreeSet<>(marks);
        Map<Integer, List<Integer>> keptHints = new TreeMap<>(hints);
        boolean right = tried(all.size(), live);
        all.remove(all.size() - 1);
        marks.clear();
        marks.addAll(keptMarks);
        hints.clear();
        hints.putAll(keptHints);
        return right;
    }

    boolean isChecked() {
        return checked;
    }
}
