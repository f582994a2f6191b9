/** Boundary cases of promises 10 to 16: years, what is given, shortened, put ahead, undone, kept. */
public final class DoneEdgesTest {
    private static final Edges EDGES = new Edges();
    private static final String FIVE = "man 1 9;man 2 9;man 3 9;man 4 9;man 5 9";

    public static void main(String[] args) {
        yearNumbers();
        lastYear();
        yearsTogether();
        firstOpen();
        asAheadOfTheYear();
        asMuchAsWork();
        workByKind();
        spans();
        severalDie();
        keptByDeath();
        heirs();
        theCat();
        give();
        giveRefused();
        shorten();
        shortenRefused();
        ahead();
        aheadRefused();
        undo();
        undoNinth();
        undoAlone();
        keep();
        back();
        backAcrossTexts();
        EDGES.end(new int[] {10, 11, 12, 13, 14, 15, 16}, "year OUTSIDE FULL", "give UNKNOWN NOT", "shorten UNKNOWN NOT",
            "ahead UNKNOWN NOT", "undo NOT", "keep UNKNOWN", "back UNKNOWN NOT");
    }

    private static void yearNumbers() {
        EDGES.edge(10, "YEARS (n 1 .. 12, together they are undone): which it is.",
            "year LEAST = OUTSIDE, year -1 = OUTSIDE, year 0 = OUTSIDE, year 1 = 1, year 12 = 13, year 13 = OUTSIDE",
            "year GREATEST = OUTSIDE, count 2 = 13, count 9 = 2");
    }

    private static void lastYear() {
        EDGES.edge(10, "FULL: it would be above 999.",
            "82 * year 12", "year 3 = 987, year 12 = 999, count 2 = 999, year 1 = FULL, year 12 = FULL, year 0 = OUTSIDE",
            "year 13 = OUTSIDE, year LEAST = OUTSIDE, year GREATEST = OUTSIDE, undo = 7, count 2 = 987, year 12 = 999");
        EDGES.edge(10, "FULL: it would be above 999.", "82 * year 12", "year 4 = 988, year 12 = FULL, year 11 = 999");
        EDGES.edge(10, "FULL: it would be above 999.", "83 * year 12", "year 2 = 998, year 2 = FULL, year 1 = 999");
    }

    private static void yearsTogether() {
        EDGES.edge(10, "together they are undone",
            "told man 1 20;will 0 40", "year 12 = 12, count 9 = 1, promise 0 2 = 12, undo = 0, count 2 = 0",
            "promise 0 2 = 0, person 0 1 = 20, undo = NOT");
    }

    private static void firstOpen() {
        EDGES.edge(10, "each works at the first PROMISE in its order that is OPEN",
            "told man 2 9;man 1 9;will 1 3;ever 0 1;shun 0 1;will 0 5 a;will 0 4;will 0 9",
            "year 1 = 1, promise 4 2 = 2, promise 3 2 = 0, promise 5 2 = 0, year 2 = 3, count 4 = 17, promise 5 2 = 2",
            "year 1 = 4, promise 3 2 = 2, promise 5 2 = 2, count 6 = 11");
        EDGES.edge(10, "each works at the first PROMISE in its order that is OPEN",
            "told man 3 9;will 0 9;will 0 9", "ahead 1 = 1, year 1 = 1, promise 1 2 = 3, promise 0 2 = 0");
        EDGES.edge(10, "each works at the first PROMISE in its order that is OPEN",
            "told " + FIVE + ";will 4 40;will 3 40;will 2 40;will 1 40;will 0 40",
            "year 1 = 1, promise 0 2 = 5, promise 1 2 = 4, promise 2 2 = 3, promise 3 2 = 2, promise 4 2 = 1");
    }

    private static void asAheadOfTheYear() {
        String sentence = "OPEN by how all was ahead of the YEAR";
        EDGES.edge(10, sentence,
            "told man 9 9;man 9 9;will 0 1;will 1 1 a", "year 1 = 1, count 4 = 1, promise 1 2 = 0, year 1 = 2",
            "count 4 = 3");
        EDGES.edge(10, sentence,
            "told man 9 9;man 9 9;will 1 1;will 0 1 a", "year 1 = 1, count 4 = 1, promise 1 2 = 0, year 1 = 2",
            "count 4 = 3");
        EDGES.edge(10, sentence,
            "told man 9 9;will 0 1;will 0 1 a;will 0 1", "year 1 = 1, count 4 = 1, year 1 = 2, count 4 = 3, year 1 = 3",
            "count 4 = 7");
        EDGES.edge(10, sentence,
            "told man 1 1;man 9 9;shun 0 1;will 1 9 a", "year 1 = 1, count 4 = 1, promise 1 2 = 0, year 1 = 2",
            "count 4 = 3");
    }

    private static void asMuchAsWork() {
        String sentence = "if that is as much as WORK, or more, it is KEPT (DONE as much as WORK)";
        EDGES.edge(10, sentence,
            "told man 5 9;will 0 10", "year 1 = 1, promise 0 2 = 5, count 4 = 0, year 1 = 2, promise 0 2 = 10",
            "count 4 = 1");
        EDGES.edge(10, sentence,
            "told man 5 9;will 0 11", "year 2 = 2, promise 0 2 = 10, promise 0 4 = 0, year 1 = 3, promise 0 2 = 11",
            "promise 0 4 = NONE, year 1 = 4, promise 0 2 = 11");
        EDGES.edge(10, sentence,
            "told man 9 9;short 0 1;will 0 40", "year 1 = 1, promise 0 2 = 1, promise 1 2 = 0, person 0 3 = 1");
        EDGES.edge(10, sentence,
            "told man 1 60;will 0 40", "year 12 = 12, year 12 = 24, year 12 = 36, year 3 = 39, count 4 = 0",
            "year 1 = 40, count 4 = 1");
    }

    private static void workByKind() {
        EDGES.edge(10, "PAY: half of what WILL does (cut), and 1.",
            "told man 1 9;man 2 9;man 3 9;man 4 9;man 5 9;pay 0 40;pay 1 40;pay 2 40;pay 3 40;pay 4 40",
            "year 1 = 1, promise 0 2 = 1, promise 1 2 = 2, promise 2 2 = 2, promise 3 2 = 3, promise 4 2 = 3");
        EDGES.edge(10, "PAY: half of what WILL does (cut), and 1.",
            "told man 6 9;man 7 9;man 8 9;man 9 9;pay 0 40;pay 1 40;pay 2 40;pay 3 40",
            "year 1 = 1, promise 0 2 = 4, promise 1 2 = 4, promise 2 2 = 5, promise 3 2 = 5");
        EDGES.edge(10, "By KIND one of STRENGTH s DOES: WILL: s.",
            "told man 1 9;man 9 9;will 0 40;will 1 40", "year 1 = 1, promise 0 2 = 1, promise 1 2 = 9");
        EDGES.edge(10, "SHORT: twice what WILL does.",
            "told man 1 9;man 9 9;short 0 40;short 1 40", "year 1 = 1, promise 0 2 = 2, promise 1 2 = 18");
        EDGES.edge(10, "NOT, EVER: cannot be worked at.",
            "told man 9 60;shun 0 1;ever 0 1", "year 12 = 12, count 6 = 0, count 4 = 0, held 0 = 0 1");
    }

    private static void spans() {
        EDGES.edge(10, "Then of all who are not dead SPAN is 1 less.",
            "told man 1 2;man 1 60;man 1 1", "year 1 = 1, person 0 1 = 1, person 1 1 = 59, person 2 1 = 0, count 3 = 4",
            "year 1 = 2, person 0 1 = 0, count 3 = 5, year 12 = 14, person 0 1 = 0, person 2 1 = 0, person 1 1 = 46");
        EDGES.edge(10, "Then of all who are not dead SPAN is 1 less.",
            "told man 1 60", "5 * year 11", "year 4 = 59, person 0 1 = 1, count 3 = 0, year 1 = 60, person 0 1 = 0",
            "count 3 = 1");
        EDGES.edge(10, "Then those whose SPAN came to 0, rising, die",
            "told man 9 1;will 0 9;will 0 9", "year 1 = 1, count 4 = 1, promise 0 4 = NONE, held NONE = 1, held 0 =");
    }

    private static void severalDie() {
        String sentence = "Then those whose SPAN came to 0, rising, die";
        EDGES.edge(10, sentence, "told man 1 1;man 1 1;will 1 9;will 0 9", "year 1 = 1, held NONE = 1 0, count 3 = 3");
        EDGES.edge(10, sentence,
            "told man 1 9;man 1 1 0;man 1 1 0;will 2 9;will 1 9;will 0 9;will 2 9", "ahead 3 = 1, year 1 = 1",
            "held 0 = 2 1 3 0");
        EDGES.edge(10, sentence,
            "told man 1 2;man 1 2;man 1 2;man 1 2;man 1 2;will 4 9;will 3 9;will 2 9;will 1 9;will 0 9",
            "year 1 = 1, held NONE =, year 1 = 2, held NONE = 4 3 2 1 0, count 3 = 31, count 6 = 10");
    }

    private static void keptByDeath() {
        EDGES.edge(10, "PROMISES are 0, 1 .., 10 at most",
            "told man 1 1;man 1 2;" + "will 1 9;".repeat(9) + "ever 1 9", "year 1 = 1, count 3 = 1, held NONE =",
            "held 1 = 0 1 2 3 4 5 6 7 8 9, year 1 = 2, count 3 = 3, held NONE = 0 1 2 3 4 5 6 7 8 9");
        EDGES.edge(10, "what one holds that by KIND is KEPT BY DEATH is KEPT (DONE as it is)",
            "told man 9 1;shun 0 40;shun 0 1", "year 1 = 1, count 4 = 3, promise 0 2 = 0, promise 0 4 = NONE",
            "held NONE =");
        EDGES.edge(10, "KEPT BY DEATH is: NOT; no other.",
            "told man 1 1;ever 0 1;will 0 40;shun 0 9;pay 0 40;short 0 40", "year 1 = 1, count 4 = 4",
            "held NONE = 0 1 3 4");
        EDGES.edge(10, "what one holds that by KIND is KEPT BY DEATH is KEPT",
            "told man 1 1;man 1 9;ever 1 1;shun 0 1 a;shun 1 1", "year 1 = 1, count 4 = 2, held 1 = 0 2");
    }

    private static void heirs() {
        String sentence = "the others go, in their order, behind all that the HEIR holds, if the HEIR's SPAN is not 0";
        EDGES.edge(10, sentence,
            "told man 1 2;man 1 1 0;will 1 9;will 1 9;will 0 9;ever 1 9;shun 1 9", "ahead 1 = 1, year 1 = 1",
            "person 0 1 = 1, held 0 = 2 1 0 3, held 1 =, held NONE =, count 4 = 16, year 1 = 2, held NONE = 2 1 0 3");
        EDGES.edge(10, sentence,
            "told man 1 3;man 1 3 0;will 1 9", "year 2 = 2, held 1 = 0, year 1 = 3, held NONE = 0, held 0 =");
        EDGES.edge(10, sentence, "told man 1 1;man 1 2 0;will 1 9", "year 1 = 1, held 1 = 0, year 1 = 2, held NONE = 0");
        EDGES.edge(10, sentence,
            "told man 1 9;man 1 1 0;man 1 2 1;will 2 9", "year 2 = 2, held NONE = 0, held 0 =");
        EDGES.edge(10, sentence,
            "told man 1 9;man 1 2 0;man 1 1 1;will 2 9;will 1 9", "year 1 = 1, held 1 = 1 0, year 1 = 2, held 0 = 1 0");
        EDGES.edge(10, sentence,
            "told man 1 9;man 1 9;man 1 9;man 1 9;man 1 1 3;will 4 9", "year 1 = 1, held 3 = 0");
    }

    private static void theCat() {
        EDGES.edge(10, "else behind all that THE CAT holds",
            "told man 1 1;man 1 9;will 0 9;will 1 9;will 0 9", "give 1 NONE = 1, year 1 = 1, held NONE = 1 0 2");
        EDGES.edge(10, "else behind all that THE CAT holds",
            "told man 9 9;shun 0 1;will 0 1", "give 0 NONE = 0, give 1 NONE = 0, year 12 = 12, count 4 = 0",
            "count 6 = 0, held NONE = 0 1");
        EDGES.edge(10, "Then it is the next YEAR.", "count 2 = 0, year 1 = 1, count 2 = 1, year 12 = 13, count 2 = 13");
    }

    private static void give() {
        EDGES.edge(11, "GIVEN (person NONE: to THE CAT): who held it (5: THE CAT).",
            "told " + FIVE + ";will 4 9;will 0 9;will 4 9", "give 0 0 = 4, held 0 = 1 0, held 4 = 2, give 0 4 = 0",
            "held 4 = 2 0",
            "give 2 NONE = 4, give 1 NONE = 0, held NONE = 2 1, give 2 3 = 5, held NONE = 1, held 3 = 2, count 9 = 5");
        EDGES.edge(11, "GIVEN: a PROMISE that is not KEPT is HELD by another (or THE CAT), behind what that one holds.",
            "told man 1 9;man 1 9;will 0 9;will 1 9;will 1 9", "ahead 2 = 1, give 0 1 = 0, held 1 = 2 1 0, held 0 =",
            "year 1 = 1, promise 2 2 = 1, give 2 0 = 1, promise 2 2 = 1, held 0 = 2");
    }

    private static void giveRefused() {
        EDGES.edge(11, "UNKNOWN; NOT: it is KEPT, that one holds it, or is dead.",
            "told man 1 1;man 9 9;will 1 9;will 1 9;will 1 9", "give 2 1 = NOT, give 2 0 = 1, give 2 0 = NOT",
            "give 2 1 = 0",
            "give 1 NONE = 1, give 1 NONE = NOT, year 1 = 1, give 0 1 = NOT, give 0 NONE = NOT, give 0 0 = NOT",
            "give 2 0 = NOT, give 1 0 = NOT, give 1 1 = 5, count 9 = 5");
        EDGES.edge(11, "UNKNOWN; NOT: it is KEPT, that one holds it, or is dead.",
            "told " + FIVE + ";will 0 9",
            "give -1 0 = UNKNOWN, give 1 0 = UNKNOWN, give LEAST 0 = UNKNOWN, give GREATEST 0 = UNKNOWN",
            "give 0 -2 = UNKNOWN, give 0 5 = UNKNOWN, give 0 LEAST = UNKNOWN, give 0 GREATEST = UNKNOWN",
            "give 1 NONE = UNKNOWN, give 1 5 = UNKNOWN, give 0 4 = 0, count 9 = 1");
        EDGES.edge(11, "the first of these that fits",
            "told man 9 9;will 0 9", "year 1 = 1, give 0 1 = UNKNOWN, give 0 0 = NOT, give 1 0 = UNKNOWN");
        EDGES.edge(11, "UNKNOWN; NOT: it is KEPT, that one holds it, or is dead.",
            "told man 1 2;man 1 9;will 1 40", "year 1 = 1, give 0 0 = 1, give 0 1 = 0, year 1 = 2, give 0 0 = NOT");
    }

    private static void shorten() {
        EDGES.edge(12, "SHORTENED: half of WORK less what is DONE (cut) is taken off WORK.",
            "told man 1 9;will 0 40;will 0 3;ever 0 2;shun 0 9", "shorten 0 = 20, shorten 1 = 2, shorten 2 = 1",
            "shorten 3 = 5",
            "year 5 = 5, promise 0 2 = 5, shorten 0 = 13, shorten 0 = 9, promise 0 2 = 5, count 9 = 7");
        EDGES.edge(12, "SHORTENED: WORK then.",
            "told man 1 9;will 0 9", "year 7 = 7, shorten 0 = 8, shorten 0 = NOT, year 1 = 8, promise 0 2 = 8",
            "count 4 = 1");
        EDGES.edge(12, "SHORTENED: WORK then.",
            "told man 1 9;will 0 9", "give 0 NONE = 0, shorten 0 = 5, promise 0 4 = 5");
    }

    private static void shortenRefused() {
        EDGES.edge(12, "UNKNOWN; NOT: it is KEPT, or nothing would be taken off.",
            "told man 1 9;will 0 1;will 0 2;will 0 3", "shorten 0 = NOT, shorten 1 = 1, shorten 1 = NOT, shorten 2 = 2",
            "shorten 2 = 1, shorten 2 = NOT, shorten -1 = UNKNOWN, shorten 3 = UNKNOWN, shorten LEAST = UNKNOWN",
            "shorten GREATEST = UNKNOWN, count 9 = 3");
        EDGES.edge(12, "UNKNOWN; NOT: it is KEPT, or nothing would be taken off.",
            "told man 9 9;will 0 9", "year 1 = 1, shorten 0 = NOT, promise 0 1 = 9");
        EDGES.edge(12, "UNKNOWN; NOT: it is KEPT, or nothing would be taken off.",
            "told man 1 1;shun 0 40", "year 1 = 1, promise 0 2 = 0, shorten 0 = NOT, promise 0 1 = 40");
        EDGES.edge(12, "nothing would be taken off",
            "told man 1 9;will 0 5", "year 3 = 3, shorten 0 = 4, year 1 = 4, promise 0 4 = NONE, shorten 0 = NOT");
        EDGES.edge(12, "nothing would be taken off",
            "told man 1 9;will 0 5", "year 4 = 4, promise 0 4 = 0, shorten 0 = NOT");
    }

    private static void ahead() {
        EDGES.edge(13, "AHEAD: as the how manieth (0 on) it was held.",
            "told man 1 9;man 1 9;will 0 9;will 1 9;will 0 9;will 1 9;will 0 9", "ahead 4 = 2, held 0 = 4 0 2",
            "ahead 0 = 1",
            "held 0 = 0 4 2, held 1 = 1 3, ahead 3 = 1, held 1 = 3 1, held 0 = 0 4 2");
        EDGES.edge(13, "AHEAD: as the how manieth (0 on) it was held.",
            "told man 1 9;" + "will 0 9;".repeat(9) + "will 0 9", "ahead 9 = 9, held 0 = 9 0 1 2 3 4 5 6 7 8",
            "ahead 8 = 9");
        EDGES.edge(13, "AHEAD: a PROMISE is the first that its holder holds.",
            "told man 1 9;will 0 9;will 0 9", "give 0 NONE = 0, give 1 NONE = 0, ahead 1 = 1, held NONE = 1 0",
            "ahead 1 = NOT");
    }

    private static void aheadRefused() {
        EDGES.edge(13, "UNKNOWN; NOT: it is KEPT, or the first.",
            "told man 1 9;man 1 9;will 0 1;will 0 9;will 0 9;will 1 9", "ahead 0 = NOT, ahead 3 = NOT, year 1 = 1",
            "ahead 0 = NOT, ahead 1 = NOT, ahead 2 = 1, held 0 = 2 1, ahead 2 = NOT, count 9 = 2");
        EDGES.edge(13, "UNKNOWN; NOT: it is KEPT, or the first.",
            "told man 1 9;will 0 9;will 0 9",
            "ahead -1 = UNKNOWN, ahead 2 = UNKNOWN, ahead LEAST = UNKNOWN, ahead GREATEST = UNKNOWN, ahead 1 = 1");
        EDGES.edge(13, "UNKNOWN; NOT: it is KEPT, or the first.",
            "told man 9 9;will 0 1;will 0 1;will 0 9", "year 2 = 2, count 4 = 3, ahead 0 = NOT, ahead 1 = NOT",
            "ahead 2 = NOT");
        EDGES.edge(13, "UNKNOWN; NOT: it is KEPT, or the first.",
            "told man 1 9;man 1 1;will 0 9;shun 1 1;will 0 9", "year 1 = 1, count 4 = 2, ahead 1 = NOT, ahead 2 = 1");
    }

    private static void undo() {
        String sentence = "The latest year(), give(), shorten(), ahead() is undone";
        EDGES.edge(14, sentence,
            "told man 3 2;man 1 9;will 0 5;will 0 9;shun 0 1;will 1 8", "give 3 0 = 1, undo = 0, held 0 = 0 1 2",
            "held 1 = 3");
        EDGES.edge(14, sentence,
            "told man 3 2;will 0 9", "year 1 = 1, shorten 0 = 6, undo = 1, promise 0 1 = 9, promise 0 2 = 3");
        EDGES.edge(14, sentence, "told man 3 2;will 0 5;will 0 9;will 0 9", "ahead 2 = 2, undo = 0, held 0 = 0 1 2");
        EDGES.edge(14, sentence,
            "told man 9 2;man 1 9 0;will 0 9;will 0 40;shun 0 1;will 1 8",
            "year 2 = 2, count 3 = 1, count 4 = 5, held NONE = 1, undo = 0",
            "count 2 = 0, count 3 = 0, count 4 = 0, count 6 = 0, held 0 = 0 1 2, held NONE =, person 0 1 = 2");
        EDGES.edge(14, "NOT: none.",
            "undo = NOT, year 1 = 1, count 9 = 1, undo = 0, count 9 = 0, undo = NOT, count 2 = 0, year 2 = 2, undo = 0");
    }

    private static void undoNinth() {
        String sentence = "(the last 8 can be)";
        EDGES.edge(14, sentence,
            "told man 1 60;will 0 40", "8 * year 1", "count 9 = 8, undo = 7, undo = 6, undo = 5, undo = 4, undo = 3",
            "undo = 2, undo = 1, count 2 = 1, undo = 0, count 2 = 0, promise 0 2 = 0, undo = NOT");
        EDGES.edge(14, sentence,
            "told man 1 60;will 0 40", "9 * year 1", "count 9 = 8, undo = 7, count 2 = 8, 6 * undo, count 9 = 1",
            "undo = 0, count 2 = 1, promise 0 2 = 1, person 0 1 = 59, undo = NOT, count 2 = 1");
        EDGES.edge(14, sentence,
            "told man 1 60;will 0 40", "17 * year 1", "count 9 = 8, 8 * undo, count 2 = 9, undo = NOT, year 3 = 12",
            "undo = 0, count 2 = 9");
        EDGES.edge(14, sentence,
            "told man 1 60;man 1 60;will 0 40;will 0 40", "shorten 0 = 20, year 1 = 1, give 1 1 = 0, give 1 0 = 1",
            "ahead 1 = 1",
            "shorten 1 = 20, year 2 = 3, give 0 NONE = 0, shorten 0 = 11, count 9 = 8, undo = 7, promise 0 1 = 20",
            "undo = 6, promise 0 4 = 0, undo = 5, count 2 = 1, undo = 4, promise 1 1 = 40, undo = 3, held 0 = 0 1",
            "undo = 2, held 1 = 1, undo = 1, held 0 = 0 1, undo = 0, count 2 = 0, promise 0 1 = 20, undo = NOT");
        EDGES.edge(14, "how many can be undone yet",
            "8 * year 1", "undo = 7, undo = 6, year 5 = 11, count 9 = 7, year 1 = 12, count 9 = 8, year 1 = 13",
            "count 9 = 8",
            "7 * undo", "undo = 0, count 2 = 1");
    }

    private static void undoAlone() {
        EDGES.edge(14, "The latest year(), give(), shorten(), ahead() is undone",
            "told man 1 9;will 0 9", "year 1 = 1, keep 0 = 1, register 1 2 = 2, page 1 0 3 = 3, enter 1 0 2 0 5 = 1",
            "seen 4 1 4 = 1", "text man", "count 9 = 1, undo = 0, count 8 = 1, read 1 0 2 0 = 50005, kinds = 1",
            "count 10 = 3, back 0 = 1");
        EDGES.edge(14, "Refused, and nothing changes",
            "told man 9 9;will 0 9;will 0 1", "year 1 = 1, year 0 = OUTSIDE, give 0 NONE = NOT, give 9 0 = UNKNOWN",
            "shorten 1 = NOT",
            "ahead 1 = NOT, shorten 7 = UNKNOWN, ahead 7 = UNKNOWN, count 9 = 1, undo = 0, undo = NOT");
    }

    private static void keep() {
        EDGES.edge(15, "All SPANS, PROMISES, the YEAR are kept (k 0, 1): the YEAR. UNKNOWN: no such k.",
            "keep LEAST = UNKNOWN, keep -1 = UNKNOWN, keep 0 = 0, keep 1 = 0, keep 2 = UNKNOWN, keep GREATEST = UNKNOWN");
        EDGES.edge(15, "All SPANS, PROMISES, the YEAR are kept (k 0, 1): the YEAR.",
            "83 * year 12", "keep 1 = 996, year 3 = 999, keep 0 = 999, count 9 = 8, back 1 = 996, year 2 = 998",
            "back 0 = 999");
        EDGES.edge(15, "All SPANS, PROMISES, the YEAR are kept (k 0, 1): the YEAR.",
            "told man 1 9;will 0 9", "year 1 = 1, keep 0 = 1, year 1 = 2, keep 0 = 2, year 1 = 3, back 0 = 2",
            "back 1 = NOT",
            "year 1 = 3, keep 1 = 3, back 0 = 2, promise 0 2 = 2, back 1 = 3, promise 0 2 = 3");
        EDGES.edge(15, "All SPANS, PROMISES, the YEAR are kept (k 0, 1): the YEAR.",
            "told man 1 9;will 0 9", "year 1 = 1, keep 0 = 1, count 9 = 1, undo = 0, count 2 = 0, back 0 = 1",
            "person 0 1 = 8");
    }

    private static void back() {
        EDGES.edge(16, "UNKNOWN; NOT: nothing was kept since the last text.",
            "back LEAST = UNKNOWN, back -1 = UNKNOWN, back 0 = NOT, back 1 = NOT, back 2 = UNKNOWN",
            "back GREATEST = UNKNOWN",
            "keep 0 = 0, back 1 = NOT, back 0 = 0, back -1 = UNKNOWN, back 2 = UNKNOWN");
        EDGES.edge(16, "UNKNOWN; NOT: nothing was kept since the last text.", "keep 1 = 0, back 0 = NOT, back 1 = 0");
        EDGES.edge(16, "They are as they were kept, nothing can be undone: the YEAR.",
            "told man 1 9;man 9 2 0;will 0 40;will 1 9;will 0 4;shun 1 1;ever 1 5", "year 1 = 1, ahead 2 = 1, keep 1 = 1",
            "shorten 0 = 21, give 2 NONE = 0, year 1 = 2, count 3 = 2, held 0 = 0 4, count 4 = 10, give 4 NONE = 0",
            "back 1 = 1",
            "count 9 = 0, undo = NOT, count 2 = 1, count 3 = 0, count 4 = 2, person 0 1 = 8, person 1 1 = 1",
            "held 0 = 2 0, held 1 = 3 4, held NONE =, promise 0 1 = 40, promise 0 2 = 1, promise 2 2 = 0");
        EDGES.edge(16, "They are as they were kept, nothing can be undone: the YEAR.",
            "told man 1 9;will 0 9", "keep 0 = 0, year 2 = 2, back 0 = 0, year 1 = 1, back 0 = 0, promise 0 2 = 0",
            "year 3 = 3, count 9 = 1, undo = 0, count 2 = 0, year 12 = 12, back 0 = 0, person 0 1 = 9");
        EDGES.edge(16, "They are as they were kept",
            "told man 1 9;will 0 9", "keep 0 = 0, register 0 1 = 1, seen 1 1 1 = 1, write 97 = 1, year 1 = 1, back 0 = 0",
            "count 7 = 1, count 8 = 1, count 10 = 1");
    }

    private static void backAcrossTexts() {
        EDGES.edge(16, "NOT: nothing was kept since the last text.",
            "told man 1 9;will 0 9", "year 1 = 1, keep 0 = 1, keep 1 = 1", "told man 1 9", "back 0 = NOT, back 1 = NOT",
            "keep 1 = 0",
            "back 0 = NOT, back 1 = 0", "told parish", "back 1 = NOT, count 2 = 0");
        EDGES.edge(16, "NOT: nothing was kept since the last text.",
            "told man 1 9;will 0 9", "year 1 = 1, keep 0 = 1", "text man 1", "fault = 5, parish = NOT, year 1 = 2",
            "back 0 = 1");
    }
}
