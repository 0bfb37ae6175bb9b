/** Promises 1 to 3: a new object, type, wipe. */
public final class TextTest {
    public static void main(String[] args) {
        newObject();
        typed();
        refused();
        fullText();
        wiped();
        Due.end();
    }

    private static void newObject() {
        ProofTrimmer x = new ProofTrimmer();
        Due.due("new: wipe()", x.wipe(), 0);
        Due.due("new: formula()", Due.answer(x::formula), Due.ARGUMENT);
        Due.due("new: proof(false)", Due.answer(() -> x.proof(false)), Due.STATE);
        Due.due("new: proof(true)", Due.answer(() -> x.proof(true)), Due.STATE);
        Due.due("new: check()", Due.answer(x::check), Due.STATE);
        Due.due("new: verify()", Due.answer(x::verify), Due.STATE);
        Due.due("new: write()", Due.answer(x::write), Due.STATE);
        Due.due("new: clauses()", x.clauses(), 0);
        for (int i : new int[] {Integer.MIN_VALUE, -1, 0, 1, 2, 33, 64, 65, Integer.MAX_VALUE}) {
            Due.due("new: size", x.size(i), ProofTrimmer.NONE);
            Due.due("new: literal", x.literal(i, 0), 0);
            Due.due("new: literal", x.literal(1, i), 0);
            Due.due("new: step", x.step(i), ProofTrimmer.NONE);
            Due.due("new: marked", x.marked(i), false);
            Due.due("new: hints", x.hints(i), 0);
            Due.due("new: hint", x.hint(i, 0), 0);
            Due.due("new: hint", x.hint(1, i), 0);
            Due.due("new: poke", x.poke(i, 0, 1), false);
            Due.due("new: poke", x.poke(1, i, 1), false);
            Due.due("new: written", x.written(i), ProofTrimmer.NONE);
        }
    }

    private static void typed() {
        ProofTrimmer x = new ProofTrimmer();
        // Only the lowest bytes count, the highest of them first: "p cnf" and " 3 1" and " -3 0".
        Due.due("type, two", x.type(0x7777_7777_7777_7020L, 2), 2);
        Due.due("type, three", x.type(0xffff_ffff_ff63_6e66L, 3), 5);
        Due.due("type, eight", x.type(0x2033_2031_202d_3320L, 8), 13);
        Due.due("type, one", x.type(-208L, 1), 14);
        Due.due("typed: formula()", Due.answer(x::formula), 1);
        Due.due("typed: literal(1, 0)", x.literal(1, 0), -3);
        Due.due("typed: the text is empty then", x.wipe(), 0);
        // A byte 255 is no other than that: a packed proof of it is none.
        Due.due("type, high byte", x.type(-1L, 1), 1);
        Due.due("high byte: proof(true)", Due.answer(() -> x.proof(true)), Due.ARGUMENT);
        Due.due("high byte: wipe()", x.wipe(), 1);
    }

    private static void refused() {
        ProofTrimmer x = new ProofTrimmer();
        x.type(65L, 1);
        for (int n : new int[] {Integer.MIN_VALUE, -8, -1, 0, 9, 250, Integer.MAX_VALUE}) {
            Due.due("type(0, " + n + ")", x.type(0L, n), ProofTrimmer.NONE);
        }
        Due.due("refused: wipe()", x.wipe(), 1);
    }

    private static void fullText() {
        ProofTrimmer x = new ProofTrimmer();
        for (int i = 1; i <= 31; i++) {
            Due.due("type, filling", x.type(0x2020_2020_2020_2020L, 8), 8 * i);
        }
        Due.due("type beyond 250", x.type(0L, 3), ProofTrimmer.NONE);
        Due.due("type beyond 250", x.type(0L, 8), ProofTrimmer.NONE);
        Due.due("type up to 250", x.type(0x2020L, 2), 250);
        Due.due("type at 250", x.type(0L, 1), ProofTrimmer.NONE);
        Due.due("full: wipe()", x.wipe(), 250);
        Due.due("full: type again", x.type(0L, 4), 4);
    }

    private static void wiped() {
        ProofTrimmer x = Due.of("p cnf 2 1 1 2 0", "1 0 0");
        Due.type(x, "x");
        Due.due("wipe()", x.wipe(), 1);
        Due.due("wipe() again", x.wipe(), 0);
        Due.due("wiped: the formula stays", x.size(1), 2);
        Due.due("wiped: the proof stays", x.step(1), 2);
    }
}
