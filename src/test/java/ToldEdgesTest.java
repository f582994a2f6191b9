/** Boundary cases of promises 1 to 3 and 6 to 9: a new object, its text, and what is told of people and promises. */
public final class ToldEdgesTest {
    private static final Edges EDGES = new Edges();
    private static final String FIVE = "man 1 9;man 2 9;man 3 9;man 4 9;man 5 9 3";

    public static void main(String[] args) {
        newObject();
        lastCall();
        write();
        erase();
        person();
        personBehindYears();
        holds();
        promise();
        promiseOpen();
        as();
        asRefused();
        EDGES.end(new int[] {1, 2, 3, 6, 7, 8, 9}, "write OUTSIDE FULL", "erase", "person UNKNOWN OUTSIDE NONE",
            "holds UNKNOWN OUTSIDE NONE", "promise UNKNOWN OUTSIDE NONE", "as UNKNOWN OUTSIDE NOT");
    }

    private static void newObject() {
        EDGES.edge(1, "Nobody, no registers.",
            "count 0 = 0, count 1 = 0, count 2 = 0, count 3 = 0, count 4 = 0, count 5 = 0, count 6 = 0, count 7 = 0",
            "count 8 = 0, count 9 = 0, count 10 = 0, pages 0 0 = NULL, pages 1 0 = NULL, pages 2 0 = NULL");
        EDGES.edge(1, "Nobody, no registers.",
            "person 0 0 = UNKNOWN, holds 0 0 = UNKNOWN, held NONE =, promise 0 0 = UNKNOWN, as 0 0 = UNKNOWN",
            "give 0 NONE = UNKNOWN, shorten 0 = UNKNOWN, ahead 0 = UNKNOWN, undo = NOT, back 0 = NOT, back 1 = NOT",
            "behind 0 0 0 = UNKNOWN, keeps 0 = UNKNOWN, just 0 = UNKNOWN, stuck = 0, order 0 1 0 = UNKNOWN",
            "godfathers 30 NONE = 0, peace = 0, kinds = 31, attempt = 1, forget = 0, erase = 0, fault = 0, parish = NOT");
        EDGES.edge(1, "REGISTERS 0 .. 2 are missing (at first)",
            "drop 0 = NULL, drop 1 = NULL, drop 2 = NULL, enter 0 0 0 0 1 = NULL, read 2 0 0 0 = NULL");
        PromiseNames used = Check.told("man 1 1;will 0 1");
        used.register(0, 1);
        used.seen(1, 1, 1);
        EDGES.edge(1, "Nobody, no registers.", "count 0 = 0, count 1 = 0, count 7 = 0, count 8 = 0");
    }

    private static void lastCall() {
        String[] lines = {"told man 1 60;will 0 40", "200 * write 97", "erase = 200", "12 * year 1", "200 * write 98",
            "8 * undo", "70 * undo = NOT", "count 2 = 4, count 10 = 200"};
        if (new Script(lines).steps().size() != Target.MOST_CALLS) {
            throw new IllegalStateException("the last answer is not the last that is promised");
        }
        EDGES.edge(1, "An object is used for at most 512 calls after it has been made", lines);
    }

    private static void write() {
        EDGES.edge(2, "A letter (its number, 0 .. 255) more of THE TEXT",
            "write LEAST = OUTSIDE, write -1 = OUTSIDE, write 0 = 1, write 255 = 2, write 256 = OUTSIDE",
            "write GREATEST = OUTSIDE, write 32 = 3, count 10 = 3");
        EDGES.edge(2, "OUTSIDE; FULL.",
            "198 * write 97", "write 97 = 199, write 97 = 200, write 97 = FULL, write 0 = FULL, write 255 = FULL",
            "write -1 = OUTSIDE, write 256 = OUTSIDE, write LEAST = OUTSIDE, write GREATEST = OUTSIDE, count 10 = 200");
    }

    private static void erase() {
        EDGES.edge(3, "THE TEXT is empty: how many letters it had.",
            "erase = 0, write 97 = 1, erase = 1, erase = 0, count 10 = 0, fault = 0");
        EDGES.edge(3, "THE TEXT is empty: how many letters it had.",
            "200 * write 97", "write 97 = FULL, erase = 200, count 10 = 0, write 97 = 1");
        EDGES.edge(3, "THE TEXT is empty: how many letters it had.",
            "told man 1 9;will 0 9", "year 1 = 1", "text man 2 2", "erase = 7, count 0 = 1, count 2 = 1, count 9 = 1",
            "text parish", "fault = NONE");
    }

    private static void person() {
        EDGES.edge(6, "UNKNOWN; OUTSIDE.",
            "told " + FIVE,
            "person -1 0 = UNKNOWN, person 0 0 = 1, person 4 0 = 5, person 5 0 = UNKNOWN, person LEAST 0 = UNKNOWN",
            "person GREATEST 0 = UNKNOWN, person 0 -1 = OUTSIDE, person 4 3 = 0, person 0 4 = OUTSIDE",
            "person 0 LEAST = OUTSIDE, person 0 GREATEST = OUTSIDE");
        EDGES.edge(6, "the first of these that fits",
            "told " + FIVE, "person 5 4 = UNKNOWN, person -1 -1 = UNKNOWN, person 4 4 = OUTSIDE");
        EDGES.edge(6, "Of one of PEOPLE",
            "told man 1 9", "person 0 0 = 1, person 1 0 = UNKNOWN", "told man 2 9", "person 1 0 = 2",
            "person 2 0 = UNKNOWN");
    }

    private static void personBehindYears() {
        EDGES.edge(6, "STRENGTH (what 0), SPAN (1), the HEIR (2; NONE), how many PROMISES it holds (3)",
            "told man 7 60;man 3 2 0;will 1 40;ever 1 1;will 0 40",
            "person 0 2 = NONE, person 1 2 = 0, person 0 3 = 1, person 1 3 = 2, person 0 1 = 60",
            "year 1 = 1, person 0 1 = 59, person 1 1 = 1, person 1 3 = 2, year 1 = 2, person 1 1 = 0, person 1 3 = 0",
            "person 0 3 = 3, person 1 0 = 3, person 1 2 = 0, year 12 = 14, person 1 1 = 0");
        EDGES.edge(6, "how many PROMISES it holds (3)",
            "told man 9 9;" + "will 0 1;".repeat(9) + "will 0 1", "person 0 3 = 10, year 1 = 1, person 0 3 = 9",
            "give 9 NONE = 0, person 0 3 = 8");
    }

    private static void holds() {
        EDGES.edge(7, "The k-th PROMISE (0 on) that one holds (person NONE: THE CAT); NONE.",
            "told " + FIVE + ";will 4 9;will 0 9;will 4 9;will 0 9",
            "holds 4 0 = 0, holds 4 1 = 2, holds 4 2 = NONE, holds 0 1 = 3, holds 1 0 = NONE, holds 4 GREATEST = NONE",
            "holds NONE 0 = NONE, give 2 NONE = 4, give 1 NONE = 0, holds NONE 0 = 2, holds NONE 1 = 1",
            "holds NONE 2 = NONE, holds NONE GREATEST = NONE, holds 4 0 = 0, holds 4 1 = NONE, holds 0 0 = 3");
        EDGES.edge(7, "UNKNOWN; OUTSIDE: k below 0.",
            "told " + FIVE + ";will 4 9",
            "holds 5 0 = UNKNOWN, holds -2 0 = UNKNOWN, holds LEAST 0 = UNKNOWN, holds GREATEST 0 = UNKNOWN",
            "holds 4 -1 = OUTSIDE, holds 4 LEAST = OUTSIDE, holds NONE -1 = OUTSIDE, holds NONE LEAST = OUTSIDE",
            "holds 5 -1 = UNKNOWN, holds -2 -1 = UNKNOWN, holds 4 0 = 0");
        EDGES.edge(7, "Each holds PROMISES in an order.",
            "told man 1 1;will 0 9;will 0 9;will 0 9", "held 0 = 0 1 2, ahead 2 = 2, held 0 = 2 0 1, year 1 = 1",
            "held 0 =, held NONE = 2 0 1");
    }

    private static void promise() {
        EDGES.edge(8, "UNKNOWN; OUTSIDE.",
            "told man 1 9;will 0 9;will 0 9",
            "promise -1 0 = UNKNOWN, promise 0 0 = 0, promise 1 0 = 0, promise 2 0 = UNKNOWN, promise LEAST 0 = UNKNOWN",
            "promise GREATEST 0 = UNKNOWN, promise 0 -1 = OUTSIDE, promise 0 5 = 1, promise 0 6 = OUTSIDE",
            "promise 0 LEAST = OUTSIDE, promise 0 GREATEST = OUTSIDE, promise 2 6 = UNKNOWN, promise -1 -1 = UNKNOWN");
        EDGES.edge(8, "UNKNOWN; OUTSIDE.",
            "told man 1 9;" + "will 0 9;".repeat(9) + "ever 0 9",
            "promise 9 0 = 4, promise 10 0 = UNKNOWN, promise 9 5 = 0, promise 9 6 = OUTSIDE");
        EDGES.edge(8, "who holds it (4; 5: THE CAT; NONE: it is KEPT)",
            "told " + FIVE + ";will 0 1;will 4 9",
            "promise 0 4 = 0, promise 1 4 = 4, year 1 = 1, promise 0 4 = NONE, promise 1 2 = 5, give 1 NONE = 4",
            "promise 1 4 = 5, promise 1 2 = 5");
        EDGES.edge(8, "KIND (what 0), WORK (1), DONE (2), what it NEEDS (3, bits)",
            "told man 9 9;ever 0 40;will 0 20;short 0 1 ab", "promise 0 0 = 4, promise 2 0 = 2, promise 0 1 = 40",
            "promise 2 3 = 3, year 2 = 2, promise 1 2 = 18, promise 0 2 = 0, shorten 1 = 19, promise 1 1 = 19",
            "year 1 = 3, promise 1 2 = 19, promise 1 4 = NONE, promise 2 3 = 3");
    }

    private static void promiseOpen() {
        EDGES.edge(8, "1 it is OPEN, 0 (5)",
            "told man 9 9;will 0 9;pay 0 5;short 0 9;shun 0 1;ever 0 1",
            "promise 0 5 = 1, promise 1 5 = 1, promise 2 5 = 1, promise 3 5 = 0, promise 4 5 = 0",
            "year 1 = 1, promise 0 5 = 0, promise 1 5 = 1, give 1 NONE = 0, promise 1 5 = 1");
        EDGES.edge(8, "A PROMISE is OPEN, if it is not KEPT, can be worked at by KIND, and all that it NEEDS is KEPT.",
            "told man 9 9;man 9 9;will 0 9;will 1 18;will 0 1 ab;shun 0 1 a;ever 0 1 a", "promise 2 5 = 0",
            "year 1 = 1, count 4 = 1, promise 2 5 = 0, promise 3 5 = 0, promise 4 5 = 0",
            "year 1 = 2, count 4 = 3, promise 2 5 = 1, year 1 = 3, count 4 = 7, promise 2 5 = 0");
        EDGES.edge(8, "all that it NEEDS is KEPT",
            "told man 1 1;man 9 9;shun 0 5;will 1 9 a", "promise 1 5 = 0, year 1 = 1, promise 0 4 = NONE",
            "promise 1 5 = 1");
    }

    private static void as() {
        String all = "told man 1 9;will 0 1;pay 0 1;short 0 1;shun 0 1;ever 0 1";
        String sentence = "A PROMISE taken as a KIND (0 .. 5, as they are over one another)";
        EDGES.edge(9, sentence, all, "as 0 0 = 5, as 1 0 = 3, as 2 0 = 10, as 3 0 = 0, as 4 0 = 0");
        EDGES.edge(9, sentence, all, "as 0 1 = 5, as 1 1 = 3, as 2 1 = 10, as 3 1 = NOT, as 4 1 = NOT");
        EDGES.edge(9, "PAY (2) is WILL", all, "as 0 2 = NOT, as 1 2 = 3, as 2 2 = NOT, as 3 2 = NOT, as 4 2 = NOT");
        EDGES.edge(9, "SHORT (3) is WILL", all, "as 0 3 = NOT, as 1 3 = NOT, as 2 3 = 10, as 3 3 = NOT, as 4 3 = NOT");
        EDGES.edge(9, "NOT (4), each under PROMISE",
            all, "as 0 4 = NOT, as 1 4 = NOT, as 2 4 = NOT, as 3 4 = 0, as 4 4 = 0");
        EDGES.edge(9, "EVER (5) is NOT", all, "as 0 5 = NOT, as 1 5 = NOT, as 2 5 = NOT, as 3 5 = NOT, as 4 5 = 0");
        EDGES.edge(9, "what one of STRENGTH 5 DOES in a YEAR",
            "told man 9 9;will 0 9", "as 0 0 = 5, year 1 = 1, promise 0 4 = NONE, as 0 1 = 5, as 0 2 = NOT");
    }

    private static void asRefused() {
        EDGES.edge(9, "UNKNOWN; OUTSIDE; NOT: it is none such.",
            "told man 1 9;ever 0 1;will 0 1",
            "as -1 0 = UNKNOWN, as 1 0 = 5, as 2 0 = UNKNOWN, as LEAST 0 = UNKNOWN, as GREATEST 0 = UNKNOWN",
            "as 0 -1 = OUTSIDE, as 0 0 = 0, as 0 5 = 0, as 0 6 = OUTSIDE, as 0 LEAST = OUTSIDE, as 0 GREATEST = OUTSIDE",
            "as 2 6 = UNKNOWN, as -1 -1 = UNKNOWN, as 1 6 = OUTSIDE, as 1 5 = NOT, as 1 4 = NOT");
        EDGES.edge(9, "UNKNOWN; OUTSIDE; NOT: it is none such.",
            "told man 1 9;" + "will 0 1;".repeat(9) + "pay 0 1", "as 9 2 = 3, as 10 2 = UNKNOWN");
    }
}
