/** Boundary cases of promises 29 to 37: registers, pages, lines, and what is counted. */
public final class RegisterEdgesTest {
    private static final Edges EDGES = new Edges();
    private static final String BOUND = "register 0 2 = 2, register 1 3 = 3, page 0 0 2 = 2, bind 0 0 1 2 = 1";

    public static void main(String[] args) {
        register();
        page();
        pageFirstFlaw();
        bind();
        bindRefused();
        same();
        sameRefused();
        enter();
        enterRefused();
        enterFirstFlaw();
        read();
        readRefused();
        severalPlaces();
        pages();
        drop();
        count();
        countOfAll();
        EDGES.end(new int[] {29, 30, 31, 32, 33, 34, 35, 36, 37}, "register UNKNOWN OUTSIDE SIZE",
            "page UNKNOWN OUTSIDE NULL INDEX SIZE", "bind UNKNOWN NULL INDEX", "same UNKNOWN NULL INDEX VOID",
            "enter UNKNOWN OUTSIDE NULL INDEX VOID LINE", "read UNKNOWN OUTSIDE NULL INDEX VOID LINE EMPTY CAST",
            "pages UNKNOWN OUTSIDE NULL", "drop UNKNOWN NULL", "count OUTSIDE");
    }

    private static void register() {
        EDGES.edge(29, "UNKNOWN; OUTSIDE (n above 5); SIZE.",
            "register -1 1 = UNKNOWN, register 3 1 = UNKNOWN, register LEAST 1 = UNKNOWN, register GREATEST 1 = UNKNOWN",
            "register 0 6 = OUTSIDE, register 0 GREATEST = OUTSIDE, register 0 -1 = SIZE, register 0 LEAST = SIZE",
            "count 8 = 0",
            "register 3 6 = UNKNOWN, register -1 -1 = UNKNOWN, register 0 0 = 0, register 2 5 = 5, count 8 = 2");
        EDGES.edge(29, "A REGISTER is a new one with n missing PAGES: n.",
            "register 1 5 = 5, pages 1 0 = 5, pages 1 1 = 0, read 1 4 0 0 = VOID, read 1 5 0 0 = INDEX",
            "page 1 4 1 = 1, enter 1 4 0 0 8 = 1, register 1 5 = 5, pages 1 1 = 0, read 1 4 0 0 = VOID",
            "register 1 0 = 0, pages 1 0 = 0, read 1 0 0 0 = INDEX, count 8 = 1");
        EDGES.edge(29, "A REGISTER is a new one with n missing PAGES: n.",
            BOUND, "enter 0 0 1 0 4 = 1, register 0 1 = 1, read 0 0 1 0 = VOID, read 1 2 1 0 = 50004",
            "register 0 6 = OUTSIDE, register 1 -1 = SIZE",
            "read 1 2 1 0 = 50004, pages 0 0 = 1");
    }

    private static void page() {
        EDGES.edge(30, "UNKNOWN; OUTSIDE (n above 6); NULL; INDEX; SIZE.",
            "register 2 5 = 5, page -1 0 1 = UNKNOWN, page 3 0 1 = UNKNOWN, page LEAST 0 1 = UNKNOWN",
            "page GREATEST 0 1 = UNKNOWN",
            "page 2 0 7 = OUTSIDE, page 2 0 GREATEST = OUTSIDE, page 1 0 1 = NULL, page 2 -1 1 = INDEX",
            "page 2 5 1 = INDEX",
            "page 2 LEAST 1 = INDEX, page 2 GREATEST 1 = INDEX, page 2 0 -1 = SIZE, page 2 0 LEAST = SIZE, pages 2 1 = 0",
            "page 2 0 0 = 0, page 2 4 6 = 6, pages 2 1 = 2");
        EDGES.edge(30, "PAGE p of a REGISTER is a new one of n LINES: n.",
            "register 0 1 = 1, page 0 0 6 = 6, read 0 0 5 0 = EMPTY, read 0 0 6 0 = LINE, enter 0 0 5 0 3 = 1",
            "page 0 0 6 = 6",
            "read 0 0 5 0 = EMPTY, page 0 0 0 = 0, read 0 0 0 0 = LINE, pages 0 1 = 1, pages 0 3 = 0");
        EDGES.edge(30, "PAGE p of a REGISTER is a new one of n LINES: n.",
            BOUND, "enter 0 0 1 0 4 = 1, page 0 0 2 = 2, same 0 0 1 2 = 0, read 0 0 1 0 = EMPTY, read 1 2 1 0 = 50004");
    }

    private static void pageFirstFlaw() {
        EDGES.edge(30, "of several the first in this order; it changes nothing",
            "page 3 9 7 = UNKNOWN, page 0 9 7 = OUTSIDE, page 0 9 -1 = NULL, register 0 2 = 2, page 0 9 7 = OUTSIDE",
            "page 0 2 -1 = INDEX",
            "page 0 -1 -1 = INDEX, page 0 1 -1 = SIZE, page 0 1 0 = 0, register 1 0 = 0, page 1 0 1 = INDEX",
            "page 1 0 -1 = INDEX");
        EDGES.edge(30, "fewer than none",
            "register 0 1 = 1, page 0 0 3 = 3, enter 0 0 2 0 1 = 1, page 0 0 -1 = SIZE, page 0 0 7 = OUTSIDE",
            "read 0 0 2 0 = 50001");
    }

    private static void bind() {
        EDGES.edge(31, "PAGE q of a REGISTER becomes PAGE p of one (the same one; missing, if that is): 1.",
            BOUND, "same 0 0 1 2 = 1, read 1 2 0 0 = EMPTY, bind 1 0 1 2 = 1, read 1 2 0 0 = VOID",
            "read 0 0 0 0 = EMPTY, pages 1 1 = 0",
            "bind 0 0 0 1 = 1, same 0 0 0 1 = 1, bind 0 0 0 0 = 1, same 0 0 0 1 = 1, bind 1 0 1 0 = 1",
            "read 1 0 0 0 = VOID");
        EDGES.edge(31, "PAGE q of a REGISTER becomes PAGE p of one",
            "register 0 5 = 5, register 2 5 = 5, page 0 4 6 = 6, page 2 0 1 = 1, bind 0 4 2 0 = 1",
            "read 2 0 5 0 = EMPTY, bind 2 0 2 4 = 1",
            "same 2 4 0 4 = 1, pages 2 1 = 2, pages 2 2 = 1");
    }

    private static void bindRefused() {
        EDGES.edge(31, "UNKNOWN; NULL (either); INDEX (either).",
            "register 0 2 = 2, bind -1 0 0 0 = UNKNOWN, bind 3 0 0 0 = UNKNOWN, bind LEAST 0 0 0 = UNKNOWN",
            "bind GREATEST 0 0 0 = UNKNOWN",
            "bind 0 0 -1 0 = UNKNOWN, bind 0 0 3 0 = UNKNOWN, bind 0 0 LEAST 0 = UNKNOWN, bind 0 0 GREATEST 0 = UNKNOWN",
            "bind 1 0 0 0 = NULL, bind 0 0 1 0 = NULL, bind 1 0 1 0 = NULL");
        EDGES.edge(31, "UNKNOWN; NULL (either); INDEX (either).",
            BOUND, "bind 0 -1 1 0 = INDEX, bind 0 2 1 0 = INDEX, bind 0 LEAST 1 0 = INDEX, bind 0 GREATEST 1 0 = INDEX",
            "bind 0 0 1 -1 = INDEX, bind 0 0 1 3 = INDEX, bind 0 0 1 LEAST = INDEX, bind 0 0 1 GREATEST = INDEX",
            "bind 0 1 1 2 = 1");
        EDGES.edge(31, "of several the first in this order",
            "register 0 2 = 2, bind 3 0 1 9 = UNKNOWN, bind 1 9 -1 0 = UNKNOWN, bind 0 9 1 0 = NULL",
            "bind 1 0 0 9 = NULL, bind 0 9 0 9 = INDEX");
        EDGES.edge(31, "UNKNOWN; NULL (either); INDEX (either).",
            "register 0 0 = 0, register 1 1 = 1, bind 0 0 1 0 = INDEX, bind 1 0 0 0 = INDEX, bind 0 0 0 0 = INDEX");
    }

    private static void same() {
        EDGES.edge(32, "Whether PAGE p of one REGISTER is the same one as PAGE q of one (1, 0).",
            "register 0 2 = 2, register 1 1 = 1, page 0 0 1 = 1, page 0 1 1 = 1, page 1 0 1 = 1, same 0 0 0 0 = 1",
            "same 0 0 0 1 = 0",
            "same 0 1 1 0 = 0, bind 0 1 1 0 = 1, same 0 1 1 0 = 1, same 1 0 0 1 = 1, same 1 0 0 0 = 0, page 0 1 1 = 1",
            "same 0 1 1 0 = 0");
        EDGES.edge(32, "Whether PAGE p of one REGISTER is the same one as PAGE q of one (1, 0).",
            "register 0 2 = 2, page 0 0 0 = 0, page 0 1 0 = 0, same 0 0 0 1 = 0, bind 0 0 0 1 = 1, same 0 0 0 1 = 1");
    }

    private static void sameRefused() {
        EDGES.edge(32, "UNKNOWN; NULL (either); INDEX (either); VOID (either).",
            "register 0 2 = 2, same -1 0 0 0 = UNKNOWN, same 3 0 0 0 = UNKNOWN, same LEAST 0 0 0 = UNKNOWN",
            "same GREATEST 0 0 0 = UNKNOWN",
            "same 0 0 -1 0 = UNKNOWN, same 0 0 3 0 = UNKNOWN, same 0 0 LEAST 0 = UNKNOWN, same 0 0 GREATEST 0 = UNKNOWN",
            "same 1 0 0 0 = NULL, same 0 0 1 0 = NULL, same 2 0 1 0 = NULL");
        EDGES.edge(32, "UNKNOWN; NULL (either); INDEX (either); VOID (either).",
            BOUND, "same 0 -1 1 2 = INDEX, same 0 2 1 2 = INDEX, same 0 LEAST 1 2 = INDEX, same 0 GREATEST 1 2 = INDEX",
            "same 0 0 1 -1 = INDEX, same 0 0 1 3 = INDEX, same 0 0 1 LEAST = INDEX, same 0 0 1 GREATEST = INDEX",
            "same 0 1 1 2 = VOID, same 0 0 1 1 = VOID, same 0 1 1 1 = VOID, same 0 1 0 1 = VOID");
        EDGES.edge(32, "of several the first in this order",
            BOUND, "same 3 9 2 0 = UNKNOWN, same 2 0 0 9 = NULL, same 0 9 2 0 = NULL, same 2 0 0 1 = NULL",
            "same 0 1 0 9 = INDEX, same 0 9 0 1 = INDEX");
    }

    private static void enter() {
        EDGES.edge(33, "has the number v (what 0; -9999 .. 9999)",
            "register 0 1 = 1, page 0 0 1 = 1, enter 0 0 0 0 -10000 = OUTSIDE, enter 0 0 0 0 -9999 = 1",
            "read 0 0 0 0 = 40001",
            "enter 0 0 0 0 10000 = OUTSIDE, enter 0 0 0 0 LEAST = OUTSIDE, enter 0 0 0 0 GREATEST = OUTSIDE",
            "read 0 0 0 0 = 40001",
            "enter 0 0 0 0 9999 = 1, read 0 0 0 0 = 59999, enter 0 0 0 0 0 = 1, read 0 0 0 0 = 50000");
        EDGES.edge(33, "PROMISE v (1)",
            "told man 9 9;" + "will 0 1;".repeat(9) + "will 0 1", "register 2 5 = 5, page 2 4 6 = 6",
            "enter 2 4 5 1 -1 = UNKNOWN, enter 2 4 5 1 0 = 1",
            "read 2 4 5 1 = 0, enter 2 4 5 1 9 = 1, read 2 4 5 1 = 9, enter 2 4 5 1 10 = UNKNOWN",
            "enter 2 4 5 1 LEAST = UNKNOWN",
            "enter 2 4 5 1 GREATEST = UNKNOWN, read 2 4 5 1 = 9, year 1 = 1, enter 2 4 0 1 0 = 1, read 2 4 0 1 = 0");
        EDGES.edge(33, "or nothing (2; v is no matter): 1.",
            "register 0 1 = 1, page 0 0 2 = 2, enter 0 0 0 2 0 = 1, enter 0 0 1 0 5 = 1, enter 0 0 1 2 LEAST = 1",
            "read 0 0 1 0 = EMPTY",
            "enter 0 0 1 2 GREATEST = 1, enter 0 0 1 2 10000 = 1, read 0 0 1 1 = EMPTY, pages 0 3 = 0");
        EDGES.edge(33, "A LINE has nothing (at first), a number, or a PROMISE.",
            "told man 9 9;will 0 1", "register 0 1 = 1, page 0 0 1 = 1, read 0 0 0 0 = EMPTY, read 0 0 0 1 = EMPTY",
            "enter 0 0 0 0 0 = 1, read 0 0 0 1 = CAST",
            "enter 0 0 0 1 0 = 1, read 0 0 0 0 = CAST, read 0 0 0 1 = 0, enter 0 0 0 2 0 = 1, read 0 0 0 1 = EMPTY");
    }

    private static void enterRefused() {
        EDGES.edge(33, "UNKNOWN (the REGISTER; by what 1 the PROMISE); OUTSIDE (what, the number); NULL; INDEX; VOID; LINE.",
            "told man 9 9;will 0 1", BOUND,
            "enter -1 0 0 0 1 = UNKNOWN, enter 3 0 0 0 1 = UNKNOWN, enter LEAST 0 0 0 1 = UNKNOWN",
            "enter GREATEST 0 0 0 1 = UNKNOWN",
            "enter 0 0 0 1 1 = UNKNOWN, enter 0 0 0 -1 0 = OUTSIDE, enter 0 0 0 3 0 = OUTSIDE",
            "enter 0 0 0 LEAST 0 = OUTSIDE",
            "enter 0 0 0 GREATEST 0 = OUTSIDE, enter 2 0 0 0 1 = NULL, enter 0 -1 0 0 1 = INDEX, enter 0 2 0 0 1 = INDEX",
            "enter 0 LEAST 0 0 1 = INDEX, enter 0 GREATEST 0 0 1 = INDEX, enter 0 1 0 0 1 = VOID",
            "enter 0 0 -1 0 1 = LINE",
            "enter 0 0 2 0 1 = LINE, enter 0 0 LEAST 0 1 = LINE, enter 0 0 GREATEST 0 1 = LINE, enter 0 0 1 0 1 = 1");
    }

    private static void enterFirstFlaw() {
        EDGES.edge(33, "the first of these that fits",
            "told man 9 9;will 0 1", "enter 3 9 9 3 0 = UNKNOWN, enter 3 9 9 1 1 = UNKNOWN, enter 0 9 9 1 1 = UNKNOWN",
            "enter 0 9 9 3 1 = OUTSIDE",
            "enter 0 9 9 0 10000 = OUTSIDE, enter 0 9 9 0 1 = NULL, enter 0 9 9 1 0 = NULL, enter 0 9 9 2 0 = NULL",
            "register 0 2 = 2",
            "enter 0 2 9 0 10000 = OUTSIDE, enter 0 2 9 0 1 = INDEX, enter 0 1 9 1 1 = UNKNOWN, enter 0 1 9 0 1 = VOID",
            "page 0 1 0 = 0",
            "enter 0 1 0 0 1 = LINE, enter 0 1 0 1 1 = UNKNOWN, enter 0 1 0 2 1 = LINE");
    }

    private static void read() {
        EDGES.edge(34, "taken as a number (what 0: that, and 50000 more), as a PROMISE (1: its number)",
            "told man 9 9;will 0 1;will 0 9", "register 0 1 = 1, page 0 0 6 = 6, enter 0 0 0 0 -1 = 1",
            "enter 0 0 5 1 1 = 1, read 0 0 0 0 = 49999",
            "read 0 0 0 1 = CAST, read 0 0 5 1 = 1, read 0 0 5 0 = CAST, read 0 0 4 0 = EMPTY, read 0 0 4 1 = EMPTY",
            "year 2 = 2, read 0 0 5 1 = 1");
    }

    private static void readRefused() {
        EDGES.edge(34, "UNKNOWN; OUTSIDE; NULL; INDEX; VOID; LINE; EMPTY; CAST.",
            BOUND, "enter 0 0 1 0 7 = 1",
            "read -1 0 0 0 = UNKNOWN, read 3 0 0 0 = UNKNOWN, read LEAST 0 0 0 = UNKNOWN",
            "read GREATEST 0 0 0 = UNKNOWN, read 0 0 1 -1 = OUTSIDE",
            "read 0 0 1 2 = OUTSIDE, read 0 0 1 LEAST = OUTSIDE, read 0 0 1 GREATEST = OUTSIDE, read 2 0 0 0 = NULL",
            "read 0 -1 0 0 = INDEX",
            "read 0 2 0 0 = INDEX, read 0 LEAST 0 0 = INDEX, read 0 GREATEST 0 0 = INDEX, read 0 1 0 0 = VOID",
            "read 0 0 -1 0 = LINE",
            "read 0 0 2 0 = LINE, read 0 0 LEAST 0 = LINE, read 0 0 GREATEST 0 = LINE, read 0 0 0 0 = EMPTY",
            "read 0 0 0 1 = EMPTY, read 0 0 1 1 = CAST");
        EDGES.edge(34, "of several the first in this order",
            "read 3 9 9 2 = UNKNOWN, read 0 9 9 2 = OUTSIDE, read 0 9 9 0 = NULL, register 0 2 = 2",
            "read 0 9 9 2 = OUTSIDE, read 0 2 9 0 = INDEX",
            "read 0 1 9 0 = VOID, page 0 1 1 = 1, read 0 1 1 1 = LINE, read 0 1 0 1 = EMPTY, register 1 0 = 0",
            "read 1 0 0 0 = INDEX");
    }

    private static void severalPlaces() {
        String sentence = "A PAGE may be bound in at several places: it is the same one everywhere.";
        EDGES.edge(33, sentence,
            BOUND, "bind 0 0 0 1 = 1, enter 1 2 1 0 5 = 1, read 0 0 1 0 = 50005, read 0 1 1 0 = 50005",
            "enter 0 1 1 2 0 = 1, read 1 2 1 0 = EMPTY",
            "enter 0 0 0 0 6 = 1, read 0 1 0 0 = 50006, read 1 2 0 0 = 50006");
        EDGES.edge(31, sentence,
            BOUND, "page 0 1 1 = 1, enter 0 0 0 0 5 = 1, bind 0 1 0 0 = 1, read 0 0 0 0 = EMPTY, read 1 2 0 0 = 50005",
            "enter 0 0 0 0 9 = 1",
            "read 0 1 0 0 = 50009, read 1 2 0 0 = 50005, bind 1 0 1 2 = 1, read 1 2 0 0 = VOID");
        EDGES.edge(36, sentence,
            BOUND, "enter 0 0 0 0 5 = 1, drop 0 = 2, read 0 0 0 0 = NULL, read 1 2 0 0 = 50005, register 0 1 = 1",
            "read 0 0 0 0 = VOID, bind 1 2 0 0 = 1",
            "enter 0 0 1 0 6 = 1, read 1 2 1 0 = 50006, drop 1 = 3, read 0 0 0 0 = 50005, read 0 0 1 0 = 50006");
    }

    private static void pages() {
        EDGES.edge(35, "UNKNOWN; OUTSIDE; NULL.",
            "register 2 5 = 5, pages -1 0 = UNKNOWN, pages 3 0 = UNKNOWN, pages LEAST 0 = UNKNOWN",
            "pages GREATEST 0 = UNKNOWN, pages 2 -1 = OUTSIDE",
            "pages 2 0 = 5, pages 2 3 = 0, pages 2 4 = OUTSIDE, pages 2 LEAST = OUTSIDE, pages 2 GREATEST = OUTSIDE",
            "pages 0 0 = NULL, pages 1 3 = NULL",
            "pages 3 4 = UNKNOWN, pages 0 4 = OUTSIDE, pages 0 -1 = OUTSIDE");
        EDGES.edge(35, "How many PAGES a REGISTER has (what 0), of these that are there (1), unlike ones (2), LINES of these unlike ones that have something (3).",
            "told man 9 9;will 0 1", "register 0 5 = 5, register 1 1 = 1, page 1 0 1 = 1, enter 1 0 0 0 1 = 1",
            "page 0 0 6 = 6, page 0 3 2 = 2, bind 0 0 0 1 = 1",
            "bind 0 3 0 4 = 1, pages 0 0 = 5, pages 0 1 = 4, pages 0 2 = 2, pages 0 3 = 0, enter 0 1 5 0 0 = 1",
            "enter 0 3 0 1 0 = 1, enter 0 4 1 0 8 = 1",
            "pages 0 3 = 3, enter 0 4 1 2 0 = 1, pages 0 3 = 2, bind 0 3 0 0 = 1, pages 0 2 = 2, pages 0 3 = 2",
            "bind 0 3 0 1 = 1, pages 0 2 = 1, pages 0 3 = 1");
        EDGES.edge(35, "How many PAGES a REGISTER has (what 0)",
            "register 0 0 = 0, pages 0 0 = 0, pages 0 1 = 0, pages 0 2 = 0, pages 0 3 = 0, register 1 1 = 1",
            "page 1 0 0 = 0, pages 1 1 = 1, pages 1 2 = 1, pages 1 3 = 0");
    }

    private static void drop() {
        EDGES.edge(36, "A REGISTER is missing from now on: how many PAGES it had. UNKNOWN; NULL.",
            "drop -1 = UNKNOWN, drop 3 = UNKNOWN, drop LEAST = UNKNOWN, drop GREATEST = UNKNOWN, drop 0 = NULL",
            "drop 2 = NULL, register 0 0 = 0",
            "register 2 5 = 5, count 8 = 2, drop 0 = 0, drop 0 = NULL, drop 2 = 5, drop 2 = NULL, pages 2 0 = NULL",
            "count 8 = 0");
    }

    private static void count() {
        EDGES.edge(37, "10 letters of THE TEXT. OUTSIDE.",
            "count LEAST = OUTSIDE, count -1 = OUTSIDE, count 0 = 0, count 10 = 0, count 11 = OUTSIDE",
            "count GREATEST = OUTSIDE, write 97 = 1, count 10 = 1");
        EDGES.edge(37, "0 PEOPLE, 1 PROMISES, 2 the YEAR",
            "told man 1 9;man 1 9;will 0 1", "count 0 = 2, count 1 = 1, count 2 = 0, year 12 = 12, count 0 = 2",
            "count 1 = 1, count 2 = 12");
        EDGES.edge(37, "3 the dead (bits)",
            "told man 1 1;man 1 2;man 1 3;man 1 9;man 1 1", "count 3 = 0, year 1 = 1, count 3 = 17, year 1 = 2",
            "count 3 = 19, year 1 = 3, count 3 = 23, year 12 = 15, count 3 = 31");
        EDGES.edge(37, "4 KEPT ones (bits)",
            "told man 9 60;" + "will 0 1;".repeat(9) + "will 0 1", "count 4 = 0, ahead 9 = 9, year 1 = 1",
            "count 4 = 512, year 9 = 10, count 4 = 1023");
        EDGES.edge(37, "5 how many THE CAT holds",
            "told man 1 1;" + "will 0 9;".repeat(9) + "will 0 9", "count 5 = 0, give 3 NONE = 0, count 5 = 1",
            "year 1 = 1, count 5 = 10");
    }

    private static void countOfAll() {
        EDGES.edge(37, "6 DONE of all together",
            "told man 9 9;man 2 9;will 0 5;will 0 40;pay 1 40", "count 6 = 0, year 1 = 1, count 6 = 7, year 1 = 2",
            "count 6 = 18, give 1 NONE = 0, count 6 = 18");
        EDGES.edge(37, "7 SEEN, 8 REGISTERS that are there",
            "seen 1 1 1 = 1, count 7 = 1, 5 * seen 1 1 1, count 7 = 6, register 0 0 = 0, count 8 = 1, register 2 1 = 1",
            "register 1 5 = 5, count 8 = 3, register 1 0 = 0, count 8 = 3");
        EDGES.edge(37, "9 how many can be undone",
            "count 9 = 0, 7 * year 1, count 9 = 7, year 1 = 8, count 9 = 8, year 1 = 9, count 9 = 8, undo = 7",
            "count 9 = 7, keep 0 = 8, back 0 = 8, count 9 = 0");
        EDGES.edge(37, "10 letters of THE TEXT",
            "199 * write 97", "count 10 = 199, write 97 = 200, count 10 = 200, write 97 = FULL, count 10 = 200",
            "erase = 200, count 10 = 0");
    }
}
