import java.util.LinkedHashMap;
import java.util.Map;

/** Formulas and proofs that several tests use. */
final class Samples {
    /** All four signs of two variables: 1 and 3 tell 1, and 2 and 4 tell -1. */
    static final String SQUARE = "p cnf 2 4 1 2 0 -1 2 0 1 -2 0 -1 -2 0";
    /** 1 follows from 1 and 2 as well as from 3 and 4. */
    static final String TWO_WAYS = "p cnf 6 6 1 2 0 1 -2 0 1 3 0 1 -3 0 -1 0 -5 -6 0";
    static final String TWO_WAYS_PROOF = "1 5 0 d 1 2 0 1 6 0 d 1 -2 0 d 3 1 0 d 1 -3 0 0";
    /** 1 2 is right by its pivot 1: partner 2 has 3, which 1 tells; partner 3 is tried. */
    static final String PIVOT =
        "p cnf 8 10 2 3 0 -1 3 0 4 -1 0 4 5 0 4 8 0 4 6 0 -5 -6 -3 0 -2 0 -4 7 0 -4 -7 0";
    static final String PIVOT_PROOF = "1 2 0 0";
    /** 8 has no partner before -8 1 is added. */
    static final String NO_PARTNER = "p cnf 8 5 1 2 0 1 -2 0 -1 2 0 -1 -2 0 8 7 0";
    static final String NO_PARTNER_PROOF = "8 0 -8 1 0 0";
    /** Partner 1 is settled by 3, and partner 2 is tried; 7 is a reason that nothing uses. 8 .. 11 are the square. */
    static final String TWO_PARTNERS =
        "p cnf 8 11 -1 2 0 -1 3 4 0 1 2 0 3 5 0 4 -5 0 3 4 0 1 6 0 7 8 0 7 -8 0 -7 8 0 -7 -8 0";
    static final String TWO_PARTNERS_PROOF = "1 0 -1 7 0 0";
    /** Eight reasons, one for each variable, and a conflict. */
    static final String EIGHT_REASONS =
        "p cnf 8 9 1 0 -1 2 0 -2 3 0 -3 4 0 -4 5 0 -5 6 0 -6 7 0 -7 8 0 -8 -1 -2 -3 -4 -5 -6 -7 0";
    /** For partner 3 the literal -3 is assumed, for partner 4 only -5. */
    static final String EACH_FOR_ITSELF = "p cnf 7 8 3 4 0 3 -4 0 -1 3 0 -1 5 0 5 6 0 5 -6 0 -3 -5 7 0 -3 -5 -7 0";
    static final String EACH_FOR_ITSELF_PROOF = "1 0 0";

    private Samples() {
    }

    /** Objects for which nothing is checked, by the way in which they came to that. */
    static Map<String, ProofTrimmer> unchecked() {
        Map<String, ProofTrimmer> all = new LinkedHashMap<>();
        all.put("a new object", new ProofTrimmer());
        all.put("a formula alone", Due.of(SQUARE));
        all.put("a proof before its check", Due.of(SQUARE, "1 0 0"));
        all.put("an open proof", Due.checked(SQUARE, "1 0"));
        all.put("a wrong proof", Due.checked(SQUARE, "0"));
        ProofTrimmer newProof = Due.checked(SQUARE, "1 0 0");
        newProof.proof(false);
        all.put("a new proof", newProof);
        ProofTrimmer newFormula = Due.checked(SQUARE, "1 0 0");
        Due.type(newFormula, SQUARE);
        newFormula.formula();
        all.put("a new formula", newFormula);
        return all;
    }

    /** The longest clauses, 5 .. 17, follow from 4; they are needed only because 18 has them as partners. */
    static ProofTrimmer manyPartners() {
        ProofTrimmer x = Due.of(SQUARE);
        for (int i = 0; i < 13; i++) {
            Due.typeBytes(x, 97, 17, 3, 5, 7, 9, 11, 13, 15, 0);
        }
        Due.typeBytes(x, 97, 16, 0, 97, 17, 2, 0, 97, 0);
        x.proof(true);
        return x;
    }

    /** 1 .. 7 refute -1, 8 and 9 refute 1; 10 .. 16 and the added 17 .. 30 are partners of 31, each for itself. */
    static ProofTrimmer manyHints() {
        return Due.of("p cnf 8 16 1 2 0 -2 3 0 -3 4 0 -4 5 0 -5 6 0 -6 7 0 -7 -2 0 -1 7 0 -1 -7 0"
            + " -8 1 0".repeat(7), "-8 1 0\n".repeat(14) + "8 0 0");
    }
}
