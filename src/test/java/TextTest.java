/** Promises 1 to 3, and what 'Terms' says of the text. */
public final class TextTest {
    private static final int NONE = ProofTrimmer.NONE;
    private static final int[] FAR = {Integer.MIN_VALUE, -1000, -1, 0, 1, 2, 16, 17, 32, 33, 64, 65, Integer.MAX_VALUE};

    public static void main(String[] args) {
        newText();
        newWithoutFormula();
        newHasNothing();
        widths();
        tooFewBytes();
        tooManyBytes();
        moreThanFull();
        refusedAppendsNothing();
        bothRefusals();
        wipedEmpty();
        wipedFull();
        wipeLeavesTheRest();
        lastCallOfAll();
        Due.end();
    }

    private static void newText() {
        Due.sentence("The text is empty, there is no formula.");
        Due.due("wipe()", new ProofTrimmer().wipe(), 0);
        Due.due("formula()", Due.answer(new ProofTrimmer()::formula), Due.ARGUMENT);
        Due.due("type(32, 1)", new ProofTrimmer().type(32L, 1), 1);
    }

    private static void newWithoutFormula() {
        Due.sentence("The text is empty, there is no formula.");
        ProofTrimmer x = new ProofTrimmer();
        Due.due("clauses()", x.clauses(), 0);
        Due.due("proof(false)", Due.answer(() -> x.proof(false)), Due.STATE);
        Due.due("proof(true)", Due.answer(() -> x.proof(true)), Due.STATE);
        Due.due("check()", Due.answer(x::check), Due.STATE);
        Due.due("verify()", Due.answer(x::verify), Due.STATE);
        Due.due("write()", Due.answer(x::write), Due.STATE);
    }

    private static void newHasNothing() {
        Due.sentence("`NONE = -1000`: There is none.");
        Due.due("NONE", NONE, -1000);
        ProofTrimmer x = new ProofTrimmer();
        for (int i : FAR) {
            Due.due("size(" + i + ")", x.size(i), NONE);
            Due.due("literal(" + i + ", 0)", x.literal(i, 0), 0);
            Due.due("literal(1, " + i + ")", x.literal(1, i), 0);
            Due.due("step(" + i + ")", x.step(i), NONE);
            Due.due("marked(" + i + ")", x.marked(i), false);
            Due.due("hints(" + i + ")", x.hints(i), 0);
            Due.due("hint(" + i + ", 0)", x.hint(i, 0), 0);
            Due.due("hint(1, " + i + ")", x.hint(1, i), 0);
            Due.due("poke(" + i + ", 0, 1)", x.poke(i, 0, 1), false);
            Due.due("poke(1, " + i + ", 1)", x.poke(1, i, 1), false);
            Due.due("written(" + i + ")", x.written(i), NONE);
        }
    }

    private static void widths() {
        Due.sentence("the lowest n bytes of bytes, the highest of them first: how many it has.");
        String text = "p cnf 8 1 -3 8 0";
        for (int n = 1; n <= 8; n++) {
            ProofTrimmer x = new ProofTrimmer();
            for (int from = 0; from < text.length(); from += n) {
                int many = Math.min(n, text.length() - from);
                // What stands above the lowest bytes belongs to no text.
                long bytes = 0x6161_6161_6161_6161L;
                for (int i = 0; i < many; i++) {
                    bytes = bytes << 8 | text.charAt(from + i);
                }
                Due.due("type of " + many + " from " + from, x.type(bytes, many), from + many);
            }
            Due.due("formula() typed by " + n, Due.answer(x::formula), 1);
            Due.due("literal(1, 0) typed by " + n, x.literal(1, 0), -3);
            Due.due("literal(1, 1) typed by " + n, x.literal(1, 1), 8);
        }
    }

    private static void tooFewBytes() {
        Due.sentence("NONE when n is not 1 .. 8 or it would have more than 250.");
        refusedWidths(Integer.MIN_VALUE, Integer.MIN_VALUE + 1, -256, -250, -8, -1, 0);
    }

    private static void tooManyBytes() {
        Due.sentence("NONE when n is not 1 .. 8 or it would have more than 250.");
        refusedWidths(9, 10, 16, 64, 72, 249, 250, 251, 256, 257, 264, Integer.MAX_VALUE - 1, Integer.MAX_VALUE);
    }

    private static void refusedWidths(int... widths) {
        ProofTrimmer x = new ProofTrimmer();
        Due.type(x, "p cnf 1 0");
        for (int n : widths) {
            Due.due("type(0, " + n + ")", x.type(0L, n), NONE);
        }
        Due.due("formula() then", Due.answer(x::formula), 0);
    }

    private static ProofTrimmer withBlanks(int many) {
        ProofTrimmer x = new ProofTrimmer();
        Due.type(x, " ".repeat(many));
        return x;
    }

    private static void moreThanFull() {
        Due.sentence("A TEXT is a row of at most 250 bytes 0 .. 255.");
        for (int n = 1; n <= 8; n++) {
            ProofTrimmer x = withBlanks(251 - n);
            Due.due("type(0, " + n + ") up to 251", x.type(0L, n), NONE);
            Due.due("wipe() then", x.wipe(), 251 - n);
            ProofTrimmer y = withBlanks(250 - n);
            Due.due("type(0, " + n + ") up to 250", y.type(0L, n), 250);
            Due.due("type(0, 1) at 250", y.type(0L, 1), NONE);
            Due.due("type(0, " + n + ") at 250", y.type(0L, n), NONE);
            Due.due("wipe() then", y.wipe(), 250);
        }
    }

    private static void refusedAppendsNothing() {
        Due.sentence("NONE when n is not 1 .. 8 or it would have more than 250.");
        ProofTrimmer x = withBlanks(240);
        Due.type(x, "p cnf 1 0");
        Due.due("type of two x at 249", x.type(0x7878L, 2), NONE);
        Due.due("type of eight x at 249", x.type(0x7878_7878_7878_7878L, 8), NONE);
        Due.due("type of a blank at 249", x.type(0x20L, 1), 250);
        Due.due("type of one x at 250", x.type(0x78L, 1), NONE);
        Due.due("formula() then", Due.answer(x::formula), 0);
    }

    private static void bothRefusals() {
        Due.sentence("NONE when n is not 1 .. 8 or it would have more than 250.");
        ProofTrimmer x = withBlanks(250);
        for (int n : new int[] {Integer.MIN_VALUE, -1, 0, 9, Integer.MAX_VALUE}) {
            Due.due("type(0, " + n + ") at 250", x.type(0L, n), NONE);
        }
        Due.due("wipe() then", x.wipe(), 250);
    }

    private static void wipedEmpty() {
        Due.sentence("The text is empty then: how many bytes it had.");
        ProofTrimmer x = new ProofTrimmer();
        Due.due("wipe()", x.wipe(), 0);
        x.type(0L, 1);
        Due.due("wipe() of one byte 0", x.wipe(), 1);
        Due.due("wipe() again", x.wipe(), 0);
        Due.type(x, "xx");
        x.wipe();
        Due.type(x, "p cnf 1 0");
        Due.due("formula() of what came later", Due.answer(x::formula), 0);
        Due.due("wipe() after formula()", x.wipe(), 0);
    }

    private static void wipedFull() {
        Due.sentence("The text is empty then: how many bytes it had.");
        ProofTrimmer x = withBlanks(250);
        Due.due("wipe() of a full text", x.wipe(), 250);
        for (int many = 8; many <= 248; many += 8) {
            Due.due("type once more", x.type(0L, 8), many);
        }
        Due.due("type up to 250 once more", x.type(0L, 2), 250);
        Due.due("wipe() once more", x.wipe(), 250);
    }

    private static void wipeLeavesTheRest() {
        Due.sentence("The text is empty then: how many bytes it had.");
        ProofTrimmer x = Due.checked("p cnf 2 2 1 0 -1 0", "2 0 d 2 0 0");
        x.write();
        String before = Due.told(x);
        Due.type(x, "x");
        Due.due("wipe()", x.wipe(), 1);
        Due.due("what is told", Due.told(x), before);
        Due.due("verify()", Due.answer(x::verify), 0);
        Due.due("check()", Due.answer(x::check), 1);
    }

    private static void lastCallOfAll() {
        Due.sentence("An object is used for at most 512 calls after it has been made");
        ProofTrimmer x = new ProofTrimmer();
        // 3 calls for the formula, then 50 rounds of 10, then 9 more.
        x.type(0x7020_636e_6620_31L, 7);
        x.type(0x2031_2030L, 4);
        Due.due("formula()", Due.answer(x::formula), 1);
        for (int round = 1; round <= 50; round++) {
            x.type(0x30L, 1);
            Due.due("round " + round + ": proof(false)", Due.answer(() -> x.proof(false)), 1);
            Due.due("round " + round + ": check()", Due.answer(x::check), 1);
            Due.due("round " + round + ": verify()", Due.answer(x::verify), 0);
            Due.due("round " + round + ": poke(2, 0, 2)", x.poke(2, 0, 2), true);
            Due.due("round " + round + ": verify()", Due.answer(x::verify), 2);
            Due.due("round " + round + ": write()", Due.answer(x::write), 2);
            Due.due("round " + round + ": written(1)", x.written(1), 10);
            x.type(0x78L, 1);
            Due.due("round " + round + ": wipe()", x.wipe(), 1);
        }
        for (int calls = 504; calls <= 512; calls++) {
            Due.due("call " + calls + ": marked(1)", x.marked(1), true);
        }
    }
}
