/** Boundary cases of promises 17 to 24: what is foretold, the best orders and godfathers, peace, odds of idle years. */
public final class ForetoldEdgesTest {
    private static final Edges EDGES = new Edges();
    private static final String FALLING = "man 1 60;will 0 5;will 0 4;will 0 3;will 0 2;will 0 1";

    public static void main(String[] args) {
        behind();
        behindRefused();
        keeps();
        keepsNone();
        just();
        justNone();
        stuck();
        orderNumbers();
        orderOfNothing();
        orderOfFive();
        orderOfFiveLastOne();
        orderOfMore();
        orderOfSeveral();
        orderOfAll();
        godfathersNumbers();
        godfathersOfNothing();
        godfathersOfMore();
        godfathersOfSeveral();
        godfathersNotDead();
        godfathersBehind();
        peace();
        idleNumbers();
        idleSure();
        idleLowest();
        EDGES.end(new int[] {17, 18, 19, 20, 21, 22, 23, 24}, "behind UNKNOWN OUTSIDE NONE", "keeps UNKNOWN NONE",
            "just UNKNOWN NONE", "stuck", "order UNKNOWN OUTSIDE NONE", "godfathers OUTSIDE NONE", "peace", "idle OUTSIDE");
    }

    private static void behind() {
        EDGES.edge(17, "Of a PROMISE behind n YEARS (0 .. 60)",
            "told man 1 60;will 0 40;will 0 20;ever 0 1",
            "behind 0 0 0 = 0, behind 0 0 1 = 0, behind 0 1 0 = 1, behind 0 39 0 = 39, behind 0 39 1 = 0",
            "behind 0 40 0 = 40",
            "behind 0 40 1 = NONE, behind 1 40 0 = 0, behind 1 41 0 = 1, behind 1 59 0 = 19, behind 1 59 1 = 0",
            "behind 1 60 0 = 20, behind 1 60 1 = NONE, behind 2 59 1 = 0, behind 2 60 1 = 5, count 2 = 0, count 6 = 0");
        EDGES.edge(17, "who holds it (1; 5: THE CAT; NONE: it is KEPT)",
            "told man 1 9;man 1 9;man 1 9;man 1 9;man 1 1 3;will 4 9;shun 4 1", "behind 0 0 1 = 4, behind 0 1 1 = 3",
            "behind 0 8 1 = 3, behind 0 9 1 = NONE, behind 0 9 0 = 9, behind 1 0 1 = 4, behind 1 1 1 = NONE",
            "behind 1 1 0 = 0");
        EDGES.edge(17, "FORETOLD (nothing changes), nothing but YEARS being done from now.",
            "told man 1 60;will 0 40", "year 12 = 12, behind 0 0 0 = 12, behind 0 1 0 = 13, shorten 0 = 26",
            "behind 0 14 1 = NONE",
            "behind 0 13 1 = 0, give 0 NONE = 0, behind 0 60 0 = 12, behind 0 60 1 = 5, behind 0 0 1 = 5");
        EDGES.edge(17, "nothing but YEARS being done from now",
            "told man 1 60;will 0 40", "83 * year 12", "year 3 = 999, behind 0 60 0 = 40, behind 0 60 1 = NONE",
            "keeps 0 = 0, just 0 = NONE");
    }

    private static void behindRefused() {
        EDGES.edge(17, "UNKNOWN; OUTSIDE.",
            "told man 1 9;will 0 9;will 0 9",
            "behind -1 0 0 = UNKNOWN, behind 2 0 0 = UNKNOWN, behind LEAST 0 0 = UNKNOWN, behind GREATEST 0 0 = UNKNOWN",
            "behind 1 -1 0 = OUTSIDE, behind 1 61 0 = OUTSIDE, behind 1 LEAST 0 = OUTSIDE, behind 1 GREATEST 0 = OUTSIDE",
            "behind 1 0 -1 = OUTSIDE, behind 1 0 2 = OUTSIDE, behind 1 0 LEAST = OUTSIDE, behind 1 0 GREATEST = OUTSIDE");
        EDGES.edge(17, "UNKNOWN; OUTSIDE.",
            "told man 1 9;will 0 9;will 0 9", "behind 2 61 2 = UNKNOWN, behind -1 -1 -1 = UNKNOWN",
            "behind 1 61 1 = OUTSIDE",
            "behind 1 60 2 = OUTSIDE, behind 1 60 1 = 5");
    }

    private static void keeps() {
        EDGES.edge(18, "KEEPS of a PROMISE: behind how many YEARS (0 .. 60) it is KEPT; none.",
            "told man 1 60;man 1 60;will 0 40;will 0 20;shun 1 1;will 1 40;will 1 21",
            "keeps 0 = 40, keeps 1 = 60, keeps 2 = 60, keeps 3 = 40, keeps 4 = NONE");
        EDGES.edge(18, "KEEPS of a PROMISE: behind how many YEARS (0 .. 60) it is KEPT; none.",
            "told man 9 9;will 0 9;will 0 10;shun 0 1", "keeps 0 = 1, keeps 1 = 3, keeps 2 = 9, year 1 = 1",
            "keeps 0 = 0, keeps 1 = 2",
            "year 8 = 9, keeps 0 = 0, keeps 1 = 0, keeps 2 = 0");
        EDGES.edge(18, "KEEPS; NONE. UNKNOWN.",
            "told man 1 9;will 0 9", "keeps 0 = 9, keeps -1 = UNKNOWN, keeps 1 = UNKNOWN, keeps LEAST = UNKNOWN",
            "keeps GREATEST = UNKNOWN");
    }

    private static void keepsNone() {
        EDGES.edge(18, "KEEPS; NONE.",
            "told man 1 9;ever 0 1;will 0 1 a;will 0 10;will 0 9", "keeps 0 = NONE, keeps 1 = NONE, keeps 2 = NONE",
            "keeps 3 = NONE",
            "ahead 3 = 3, keeps 3 = 9, give 3 NONE = 0, keeps 3 = NONE, shorten 2 = 5, keeps 2 = 5");
        EDGES.edge(18, "KEEPS; NONE.", "told man 1 9;shun 0 1", "keeps 0 = 9, give 0 NONE = 0, keeps 0 = NONE");
    }

    private static void just() {
        EDGES.edge(19, "JUST of one: behind how many (0 .. 60) it holds nothing, and is not dead; none.",
            "told man 1 60;man 1 60;man 2 60;will 0 40;will 0 19;will 1 40;will 1 20;will 2 2", "just 0 = 59",
            "just 1 = NONE, just 2 = 1",
            "year 1 = 1, just 0 = 58, just 2 = 0");
        EDGES.edge(19, "JUST of one: behind how many (0 .. 60) it holds nothing, and is not dead; none.",
            "told man 3 9;man 1 2 0;will 0 9;will 1 5", "just 0 = 4, just 1 = NONE, give 0 1 = 0, just 0 = 0");
        EDGES.edge(19, "JUST; NONE. UNKNOWN.",
            "told man 1 9;man 1 9", "just 0 = 0, just 1 = 0, just -1 = UNKNOWN, just 2 = UNKNOWN, just LEAST = UNKNOWN",
            "just GREATEST = UNKNOWN");
        EDGES.edge(19, "JUST; NONE. UNKNOWN.",
            "told man 1 9;man 1 9;man 1 9;man 1 9;man 1 9", "just 4 = 0, just 5 = UNKNOWN");
    }

    private static void justNone() {
        EDGES.edge(19, "it holds nothing, and is not dead; none",
            "told man 1 1;man 1 9;man 1 3;man 1 4;shun 1 1;will 2 3;will 3 3", "just 0 = 0, just 1 = NONE",
            "just 2 = NONE, just 3 = 3",
            "year 1 = 1, just 0 = NONE, just 3 = 2, year 2 = 3, just 3 = 0, year 1 = 4, just 3 = NONE");
        EDGES.edge(19, "it holds nothing, and is not dead; none",
            "told man 9 9;ever 0 1;will 0 1", "just 0 = NONE, give 0 NONE = 0, just 0 = 1");
    }

    private static void stuck() {
        String sentence = "EVER ones, and of WILL, PAY, SHORT ones those that NEED such as are STUCK";
        EDGES.edge(20, sentence,
            "told man 1 9;ever 0 1;will 0 1 a;pay 0 1 b;short 0 1 c;shun 0 1 a;will 0 1 e;ever 0 1;will 0 1;will 0 1 fh;will 0 1 dh",
            "stuck = 591, year 12 = 12, stuck = 591");
        EDGES.edge(20, sentence,
            "told man 1 9;ever 0 1;will 0 1 a;will 0 1 b;will 0 1 c;will 0 1 d;will 0 1 e;will 0 1 f;will 0 1 g;will 0 1 h;will 0 1 i",
            "stuck = 1023");
        EDGES.edge(20, sentence,
            "stuck = 0", "told man 1 9;shun 0 1;will 0 1 a", "stuck = 0", "told ever 0 1", "stuck = 4");
        EDGES.edge(20, sentence,
            "told man 9 9;will 0 1;ever 0 1 a;will 0 1 ab;pay 0 1 a", "stuck = 6, year 1 = 1, stuck = 6, year 1 = 2",
            "stuck = 6, count 4 = 9");
        EDGES.edge(20, "not KEPT that never can be, whoever holds them",
            "told man 1 1;will 0 9;ever 0 1;will 0 9 b", "give 0 NONE = 0, give 1 NONE = 0, stuck = 6, year 1 = 1",
            "count 3 = 1, stuck = 6");
    }

    private static void orderNumbers() {
        EDGES.edge(21, "UNKNOWN; OUTSIDE (k below NONE, too).",
            "told man 1 60;man 1 60;will 0 5", "order -1 1 0 = UNKNOWN, order 2 1 0 = UNKNOWN, order LEAST 1 0 = UNKNOWN",
            "order GREATEST 1 0 = UNKNOWN, order 0 0 0 = OUTSIDE, order 0 -1 0 = OUTSIDE, order 0 1 0 = 0",
            "order 0 30 0 = 0",
            "order 0 31 0 = OUTSIDE, order 0 LEAST 0 = OUTSIDE, order 0 GREATEST 0 = OUTSIDE, order 0 1 -2 = OUTSIDE",
            "order 0 1 LEAST = OUTSIDE, order 0 1 NONE = 0, order 0 1 1 = NONE, order 0 1 GREATEST = NONE");
        EDGES.edge(21, "UNKNOWN; OUTSIDE (k below NONE, too).",
            "told man 1 60", "order 1 0 -2 = UNKNOWN, order -1 31 0 = UNKNOWN, order 0 31 -2 = OUTSIDE",
            "order 0 30 NONE = 0");
        EDGES.edge(21, "ORDER of one, n YEARS (1 .. 30)",
            "told man 1 60;will 0 30;will 0 31", "order 0 29 NONE = 0, order 0 30 NONE = 1, order 0 30 0 = 0",
            "ahead 1 = 1, order 0 30 NONE = 1");
    }

    private static void orderOfNothing() {
        EDGES.edge(21, "the k-th that it should hold (0 on; NONE: there is none)",
            "told man 1 9;man 1 9;will 1 1;will 1 1", "order 0 1 NONE = 1, order 0 2 NONE = 2, order 0 1 0 = NONE",
            "order 0 1 4 = NONE");
        EDGES.edge(21, "how many PROMISES of all are KEPT then (k NONE)",
            "told man 1 1;man 1 9;will 1 2;shun 0 1", "year 1 = 1, order 0 1 NONE = 2, order 0 30 NONE = 2",
            "order 0 1 0 = NONE");
    }

    private static void orderOfFive() {
        EDGES.edge(21, "in which order, first one first, it should hold all that it holds now (5 at most)",
            "told " + FALLING, "order 0 1 NONE = 1, order 0 1 0 = 4, order 0 1 1 = 0, order 0 1 2 = 1, order 0 1 3 = 2",
            "order 0 1 4 = 3, order 0 1 5 = NONE, held 0 = 0 1 2 3 4");
        EDGES.edge(21, "so that most PROMISES are KEPT behind them",
            "told " + FALLING, "order 0 10 NONE = 4, order 0 10 0 = 1, order 0 10 1 = 2, order 0 10 2 = 3",
            "order 0 10 3 = 4, order 0 10 4 = 0");
        EDGES.edge(21, "so that most PROMISES are KEPT behind them",
            "told " + FALLING, "order 0 9 NONE = 3, order 0 9 0 = 0, order 0 9 1 = 2, order 0 9 2 = 4, order 0 9 3 = 1",
            "order 0 9 4 = 3");
        EDGES.edge(21, "so that most PROMISES are KEPT behind them",
            "told " + FALLING, "order 0 14 NONE = 4, order 0 15 NONE = 5, order 0 15 0 = 0, order 0 15 4 = 4",
            "order 0 30 NONE = 5");
        EDGES.edge(21, "so that most PROMISES are KEPT behind them",
            "told man 1 60;will 0 2;will 0 1 a;will 0 1 b;will 0 1 c;will 0 1 d", "order 0 6 NONE = 5, order 0 6 0 = 0",
            "order 0 5 NONE = 4",
            "ahead 4 = 4, order 0 6 4 = 4");
    }

    /** Each of the others dies unless what it needs is kept just in time: no other order keeps all. */
    private static void orderOfFiveLastOne() {
        EDGES.edge(21, "so that most PROMISES are KEPT behind them",
            "told man 1 60;man 9 2;man 9 3;man 9 4;man 9 5;will 0 1;will 0 1;will 0 1;will 0 1;will 0 1",
            "told will 1 1 e;will 2 1 d;will 3 1 c;will 4 1 b",
            "order 0 5 NONE = 9, order 0 5 0 = 4, order 0 5 1 = 3, order 0 5 2 = 2, order 0 5 3 = 1, order 0 5 4 = 0");
    }

    private static void orderOfMore() {
        EDGES.edge(21, "none: it holds more",
            "told " + FALLING + ";will 0 1", "order 0 1 NONE = NONE, order 0 1 0 = NONE, order 0 30 GREATEST = NONE",
            "order 0 0 0 = OUTSIDE",
            "order 0 31 0 = OUTSIDE, order 0 1 -2 = OUTSIDE, order 1 1 0 = UNKNOWN, year 5 = 5, count 4 = 1",
            "order 0 1 NONE = 2");
        EDGES.edge(21, "none: it holds more",
            "told man 1 60;man 1 60;" + "will 0 1;".repeat(9) + "will 0 1", "order 0 1 NONE = NONE, order 1 1 NONE = 1",
            "order 1 1 0 = NONE",
            "give 9 1 = 0, order 1 1 NONE = 2, order 1 1 0 = 9, order 0 1 NONE = NONE");
    }

    private static void orderOfSeveral() {
        EDGES.edge(21, "of several the first (by numbers, place by place)",
            "told man 1 60;will 0 1;will 0 1;will 0 1;will 0 1;will 0 1", "ahead 3 = 3, ahead 4 = 4, held 0 = 4 3 0 1 2",
            "order 0 30 NONE = 5, order 0 30 0 = 0, order 0 30 1 = 1, order 0 30 2 = 2, order 0 30 3 = 3",
            "order 0 30 4 = 4",
            "order 0 1 NONE = 1, order 0 1 0 = 0, order 0 1 4 = 4");
        EDGES.edge(21, "of several the first (by numbers, place by place)",
            "told man 1 60;ever 0 1;will 0 3;will 0 2;ever 0 1", "ahead 3 = 3, order 0 2 NONE = 1, order 0 2 0 = 0",
            "order 0 2 1 = 2",
            "order 0 2 2 = 1, order 0 2 3 = 3");
    }

    private static void orderOfAll() {
        EDGES.edge(21, "how many PROMISES of all are KEPT then (k NONE)",
            "told man 1 9;man 1 9;will 0 2;will 0 2;will 1 1 b;will 1 1 c", "order 0 4 NONE = 4, order 0 4 0 = 1",
            "order 0 4 1 = 0",
            "order 0 2 NONE = 1, order 0 2 0 = 0, order 1 4 NONE = 2, year 2 = 2, order 0 2 NONE = 2, order 0 2 0 = 1",
            "order 0 2 1 = NONE");
        EDGES.edge(21, "how many PROMISES of all are KEPT then (k NONE)",
            "told man 1 2;shun 0 9;will 0 2;will 0 1", "order 0 1 NONE = 1, order 0 1 0 = 0, order 0 1 1 = 2",
            "order 0 2 NONE = 2, order 0 2 1 = 1");
    }

    private static void godfathersNumbers() {
        EDGES.edge(22, "OUTSIDE.",
            "told man 1 60;will 0 30", "give 0 NONE = 0, godfathers -1 0 = OUTSIDE, godfathers 0 0 = NONE",
            "godfathers 29 NONE = 0",
            "godfathers 30 NONE = 1, godfathers 30 0 = 0, godfathers 31 0 = OUTSIDE, godfathers LEAST 0 = OUTSIDE",
            "godfathers GREATEST 0 = OUTSIDE, godfathers 0 -2 = OUTSIDE, godfathers 0 NONE = 0, godfathers 0 2 = NONE",
            "godfathers 0 3 = OUTSIDE, godfathers 0 LEAST = OUTSIDE, godfathers 0 GREATEST = OUTSIDE, held NONE = 0");
        EDGES.edge(22, "GODFATHERS for n YEARS (0 .. 30)",
            "told man 9 60;will 0 9;will 0 1", "year 1 = 1, give 1 NONE = 0, godfathers 0 NONE = 1",
            "godfathers 0 0 = NONE, godfathers 1 NONE = 2, godfathers 1 0 = 0");
    }

    private static void godfathersOfNothing() {
        String sentence = "(NONE: it is left, or there is none)";
        EDGES.edge(22, sentence,
            "told man 1 60;will 0 5", "godfathers 4 NONE = 0, godfathers 5 NONE = 1, godfathers 5 0 = NONE",
            "godfathers 5 1 = NONE, godfathers 5 2 = NONE");
        EDGES.edge(22, sentence,
            "godfathers 0 NONE = 0, godfathers 30 NONE = 0, godfathers 30 0 = NONE, godfathers 30 2 = NONE");
        EDGES.edge(22, sentence,
            "told man 9 60;will 0 1;will 0 1;ever 0 1", "give 0 NONE = 0, godfathers 9 0 = 0, godfathers 9 1 = NONE",
            "give 1 NONE = 0",
            "godfathers 9 NONE = 2, godfathers 9 1 = 0, godfathers 9 2 = NONE, give 2 NONE = 0, godfathers 9 NONE = 2",
            "godfathers 9 2 = NONE");
    }

    private static void godfathersOfMore() {
        String sentence = "of what THE CAT holds the first PROMISES, 3 at most";
        EDGES.edge(22, sentence,
            "told man 9 9;ever 0 1;ever 0 1;ever 0 1;will 0 1", "give 0 NONE = 0, give 1 NONE = 0, give 2 NONE = 0",
            "give 3 NONE = 0",
            "godfathers 30 NONE = 0, godfathers 30 0 = NONE, godfathers 30 2 = NONE, ahead 3 = 3, godfathers 30 NONE = 1",
            "godfathers 30 0 = 0, godfathers 30 1 = NONE, godfathers 30 2 = NONE");
        EDGES.edge(22, sentence,
            "told man 9 9;will 0 1;will 0 1;will 0 1;will 0 1", "give 3 NONE = 0, give 1 NONE = 0, give 2 NONE = 0",
            "give 0 NONE = 0",
            "godfathers 9 NONE = 3, godfathers 2 NONE = 2, godfathers 2 0 = NONE, godfathers 2 1 = 0",
            "godfathers 2 2 = 0, godfathers 3 0 = 0");
    }

    private static void godfathersOfSeveral() {
        String sentence = "of several the first (PROMISE by PROMISE left first, then the lesser number)";
        EDGES.edge(22, sentence,
            "told man 1 60;man 1 60;man 1 60;will 0 2;will 0 2", "give 0 NONE = 0, give 1 NONE = 0",
            "godfathers 1 NONE = 0, godfathers 1 0 = NONE",
            "godfathers 2 NONE = 2, godfathers 2 0 = 0, godfathers 2 1 = 1, godfathers 4 0 = 0, godfathers 4 1 = 0");
        EDGES.edge(22, sentence,
            "told man 1 60;man 1 60;man 1 60;man 1 60;man 9 60;will 0 36;will 0 36;will 0 4",
            "give 0 NONE = 0, give 1 NONE = 0, give 2 NONE = 0, godfathers 4 NONE = 2, godfathers 4 0 = NONE",
            "godfathers 4 1 = 4",
            "godfathers 4 2 = 0, godfathers 8 NONE = 3, godfathers 8 0 = 4, godfathers 8 1 = 4, godfathers 8 2 = 0",
            "godfathers 3 NONE = 1",
            "godfathers 3 2 = 4, godfathers 3 1 = NONE");
        EDGES.edge(22, sentence,
            "told man 2 60;man 3 60;will 0 6;will 0 6", "give 0 NONE = 0, give 1 NONE = 0, godfathers 3 NONE = 2",
            "godfathers 3 0 = 0, godfathers 3 1 = 1",
            "godfathers 2 NONE = 1, godfathers 2 0 = NONE, godfathers 2 1 = 1");
    }

    private static void godfathersNotDead() {
        String sentence = "to be GIVEN to one of PEOPLE that is not dead, or left";
        EDGES.edge(22, sentence,
            "told man 9 1;man 1 60;will 1 2;shun 1 3", "give 0 NONE = 1, give 1 NONE = 1, godfathers 1 NONE = 2",
            "godfathers 1 0 = 0",
            "godfathers 1 1 = 0, year 1 = 1, godfathers 2 NONE = 1, godfathers 2 0 = 1, godfathers 2 1 = NONE",
            "godfathers 1 NONE = 0");
        EDGES.edge(22, sentence,
            "told man 9 1;shun 0 3;will 0 9;ever 0 1", "give 0 NONE = 0, year 1 = 1, held NONE = 0 2",
            "godfathers 30 NONE = 1, godfathers 30 0 = NONE",
            "godfathers 30 1 = NONE");
    }

    private static void godfathersBehind() {
        String sentence = "each, one behind the other, to be GIVEN";
        EDGES.edge(22, sentence,
            "told man 1 60;will 0 5;will 0 4", "give 0 NONE = 0, give 1 NONE = 0, godfathers 9 NONE = 2",
            "godfathers 9 0 = 0, godfathers 9 1 = 0",
            "godfathers 8 NONE = 1, godfathers 8 0 = NONE, godfathers 8 1 = 0, ahead 1 = 1, godfathers 8 NONE = 1",
            "godfathers 8 1 = 0, godfathers 4 0 = 0");
        EDGES.edge(22, sentence,
            "told man 1 60;will 0 5;will 0 4;will 0 2 a", "give 1 NONE = 0, godfathers 7 NONE = 2",
            "godfathers 7 0 = NONE, godfathers 11 NONE = 3, godfathers 11 0 = 0",
            "give 2 NONE = 0, godfathers 11 NONE = 3, godfathers 11 0 = 0, godfathers 11 1 = 0, godfathers 7 0 = NONE",
            "godfathers 7 1 = 0");
    }

    private static void peace() {
        String sentence = "PEACE: the most PROMISES, KEPT or not, no two of them at STRIFE; of several the least as a number";
        String ten = "told man 9 9;" + "will 0 1;".repeat(9) + "will 0 1";
        EDGES.edge(23, sentence,
            "peace = 0", "told man 1 9", "peace = 0", "told will 0 1", "peace = 1", "told will 0 1", "peace = 3");
        EDGES.edge(23, sentence, ten, "peace = 1023", "told strife 8 9", "peace = 511", "told strife 1 0", "peace = 509");
        EDGES.edge(23, sentence, ten, "told strife 0 1", "peace = 1021, year 1 = 1, count 4 = 1, peace = 1021");
        EDGES.edge(23, sentence,
            "told man 9 9;will 0 1;will 0 1;will 0 1;will 0 1", "told strife 0 1;strife 0 2;strife 0 3", "peace = 14",
            "told strife 1 2;strife 2 1", "peace = 10", "told strife 1 3", "peace = 12", "told strife 2 3", "peace = 1");
        EDGES.edge(23, sentence,
            "told man 9 9;will 0 1;will 0 1;will 0 1;will 0 1;strife 0 1;strife 1 2;strife 2 3;strife 3 0", "peace = 5",
            "year 4 = 4, peace = 5");
        EDGES.edge(23, sentence,
            "told man 1 1;will 0 9;shun 0 9;ever 0 9;strife 0 2", "peace = 3, year 1 = 1, peace = 3, stuck = 4");
    }

    private static void idleNumbers() {
        EDGES.edge(24, "IDLE. OUTSIDE.",
            "idle -1 0 0 0 = OUTSIDE, idle 0 0 0 0 = 1, idle 9 0 0 0 = 1, idle 10 0 0 0 = OUTSIDE",
            "idle LEAST 0 0 0 = OUTSIDE",
            "idle GREATEST 0 0 0 = OUTSIDE, idle 1 -1 0 0 = OUTSIDE, idle 1 10 0 0 = 1, idle 1 11 0 0 = OUTSIDE",
            "idle 1 LEAST 0 0 = OUTSIDE",
            "idle 1 GREATEST 0 0 = OUTSIDE, idle 1 0 -1 0 = OUTSIDE, idle 1 0 9 0 = 0, idle 1 0 10 0 = OUTSIDE",
            "idle 1 0 LEAST 0 = OUTSIDE",
            "idle 1 0 GREATEST 0 = OUTSIDE, idle 1 0 0 -1 = OUTSIDE, idle 1 0 0 1 = 1, idle 1 0 0 2 = OUTSIDE",
            "idle 1 0 0 LEAST = OUTSIDE",
            "idle 1 0 0 GREATEST = OUTSIDE");
    }

    private static void idleSure() {
        String sentence = "in each YEAR one works at nothing by q of ten (0 .. 10), by itself";
        EDGES.edge(24, sentence,
            "idle 9 0 9 0 = 1, idle 9 0 9 1 = 1, idle 1 0 1 0 = 1, idle 8 0 9 0 = 0, idle 8 0 9 1 = 1");
        EDGES.edge(24, sentence,
            "idle 9 10 0 0 = 1, idle 9 10 0 1 = 1, idle 9 10 1 0 = 0, idle 9 10 1 1 = 1, idle 9 10 9 0 = 0");
        EDGES.edge(24, "the odds that n YEARS (0 .. 9) have m of work, or more (0 .. 9)",
            "idle 0 5 0 0 = 1, idle 0 5 0 1 = 1, idle 0 5 1 0 = 0, idle 0 5 1 1 = 1, idle 0 0 0 0 = 1",
            "idle 0 10 0 0 = 1, idle 0 10 0 1 = 1");
        EDGES.edge(24, "the odds that n YEARS (0 .. 9) have m of work, or more (0 .. 9)",
            "idle 3 5 3 0 = 1, idle 3 5 3 1 = 8, idle 3 5 4 0 = 0, idle 3 5 4 1 = 1, idle 3 5 9 0 = 0",
            "idle 3 5 2 0 = 1, idle 3 5 2 1 = 2");
    }

    private static void idleLowest() {
        EDGES.edge(24, "Parts are told in lowest terms: above (part 0), below (1).",
            "idle 1 3 1 0 = 7, idle 1 3 1 1 = 10, idle 1 4 1 0 = 3, idle 1 4 1 1 = 5, idle 1 5 1 0 = 1, idle 1 5 1 1 = 2",
            "idle 3 2 2 0 = 112, idle 3 2 2 1 = 125, idle 9 1 9 0 = 387420489, idle 9 1 9 1 = 1000000000",
            "idle 9 9 9 0 = 1, idle 9 9 9 1 = 1000000000, idle 9 1 1 0 = 999999999, idle 9 1 1 1 = 1000000000",
            "idle 9 3 4 0 = 487352579, idle 9 3 4 1 = 500000000");
    }
}
