/** Promises 10 to 16: years, what is given, shortened, put ahead, undone, kept. */
public final class DoneTest {
    private static final Check CHECK = new Check();

    private static void due(String call, long want, long got) {
        CHECK.due(call, want, got);
    }

    private static void held(String when, PromiseNames x, int person, String want) {
        CHECK.holds(when + ": " + person + " holds '" + Check.held(x, person) + "', due is '" + want + "'",
            Check.held(x, person).equals(want));
    }

    public static void main(String[] args) {
        yearBounds();
        workByKind();
        openAsAheadOfTheYear();
        firstOpenInOrder();
        death();
        deathTogether();
        heirInTheLastYear();
        deathOfTwoIntoOne();
        give();
        shorten();
        ahead();
        undo();
        undoOfEach();
        refusedIsNotUndone();
        keepAndBack();
        CHECK.end();
    }

    private static void yearBounds() {
        PromiseNames x = new PromiseNames();
        due("year(0)", -3, x.year(0));
        due("year(13)", -3, x.year(13));
        due("year(-1)", -3, x.year(-1));
        for (int n = 1; n <= 83; n++) {
            due("year(12)", 12 * n, x.year(12));
        }
        due("year(4) in 996", -5, x.year(4));
        due("year(13) in 996", -3, x.year(13));
        due("year(3) in 996", 999, x.year(3));
        due("year(1) in 999", -5, x.year(1));
        due("count(2)", 999, x.count(2));
        due("count(9)", 8, x.count(9));
    }

    private static void workByKind() {
        PromiseNames x = Check.told("man 5 9;man 5 9;man 5 9;man 4 9;man 1 9;will 0 40;pay 1 40;short 2 40;pay 3 40;pay 4 40");
        due("year(1)", 1, x.year(1));
        int[] once = {5, 3, 10, 3, 1};
        for (int p = 0; p < 5; p++) {
            due("DONE of " + p, once[p], x.promise(p, 2));
        }
        x.year(3);
        due("SHORT is KEPT", 4, x.count(4));
        due("DONE of all", 20 + 12 + 40 + 12 + 4, x.count(6));
        x = Check.told("man 9 9;shun 0 1;ever 0 1");
        x.year(8);
        due("NOT, EVER: DONE", 0, x.count(6));
        held("not worked at", x, 0, "0 1");
        x = Check.told("man 9 9;will 0 10");
        x.year(2);
        due("DONE as much as WORK", 10, x.promise(0, 2));
        due("KEPT", -1, x.promise(0, 4));
        x = Check.told("man 5 9;will 0 10");
        x.year(2);
        due("KEPT by just as much", 1, x.count(4));
    }

    private static void openAsAheadOfTheYear() {
        PromiseNames x = Check.told("man 9 9;man 9 9;will 0 1;will 1 1 a");
        x.year(1);
        due("only the first is KEPT", 1, x.count(4));
        x.year(1);
        due("then the other", 3, x.count(4));
        x = Check.told("man 9 9;will 0 1;will 0 1");
        x.year(1);
        due("one a YEAR", 1, x.count(4));
    }

    private static void firstOpenInOrder() {
        PromiseNames x = Check.told("man 2 9;man 1 9;will 1 3;ever 0 1;will 0 5 a;will 0 4;will 0 9");
        x.year(1);
        due("not OPEN is passed", 2, x.promise(3, 2));
        x.year(1);
        due("KEPT", 8, x.count(4));
        x.year(1);
        due("the next one", 2, x.promise(4, 2));
        due("0 is KEPT", 9, x.count(4));
        x.year(1);
        due("the former one, now OPEN", 2, x.promise(2, 2));
        due("the later one rests", 2, x.promise(4, 2));
    }

    private static void death() {
        PromiseNames x = Check.told("man 1 1;man 1 5 0;man 1 2 1;will 2 9;shun 2 9;ever 2 9;will 2 9 c;will 1 9;shun 0 3 c;will 0 9");
        x.year(1);
        due("the dead", 1, x.count(3));
        due("SPAN", 0, x.person(0, 1));
        due("NOT is KEPT, though it NEEDS", 1 << 5, x.count(4));
        due("DONE as it is", 0, x.promise(5, 2));
        held("no HEIR", x, -1, "6");
        due("DONE stays", 1, x.promise(6, 2));
        x.year(1);
        due("the dead", 5, x.count(3));
        held("HEIR", x, 1, "4 0 2 3");
        held("dead", x, 2, "");
        due("NOT is KEPT", 1 << 5 | 1 << 1, x.count(4));
        x.year(3);
        due("all dead", 7, x.count(3));
        held("dead HEIR", x, -1, "6 4 0 2 3");
        due("EVER is not KEPT", 5, x.promise(2, 4));
        x.year(12);
        due("nobody works", 17, x.count(2));
        due("DONE of all", 5 + 2 + 1, x.count(6));
    }

    private static void deathTogether() {
        PromiseNames x = Check.told("man 1 3;man 1 3 0;will 0 40;will 1 40;shun 1 1");
        x.year(3);
        held("HEIR dies too", x, -1, "0 1");
        due("NOT is KEPT", 4, x.count(4));
        x = Check.told("man 9 1;will 0 3;shun 0 1");
        x.year(1);
        due("KEPT in the last YEAR", 3, x.count(4));
        due("DONE", 3, x.count(6));
        x = Check.told("man 9 1;man 1 4 0;will 0 40;shun 0 1");
        due("shun to THE CAT", 0, x.give(1, -1));
        x.year(1);
        due("THE CAT's NOT is not KEPT", 0, x.count(4));
        held("behind what THE CAT holds", x, -1, "1 0");
    }

    private static void heirInTheLastYear() {
        PromiseNames x = Check.told("man 1 4;man 1 3 0;will 1 40;shun 1 9;ever 1 9");
        x.year(3);
        held("HEIR of SPAN 1", x, 0, "0 2");
        x.year(1);
        held("HEIR dead", x, -1, "0 2");
    }

    private static void deathOfTwoIntoOne() {
        PromiseNames x = Check.told("man 1 9;man 1 2 0;man 1 2 0;will 2 30;will 1 30;will 0 30;will 2 30;will 1 30");
        x.ahead(3);
        x.year(2);
        held("rising, each in its order", x, 0, "2 1 4 3 0");
    }

    private static void give() {
        PromiseNames x = Check.told("man 1 1;man 2 9;will 0 1;will 1 9;will 1 9");
        due("give(1, 0)", 1, x.give(1, 0));
        held("given", x, 0, "0 1");
        held("given", x, 1, "2");
        due("give(1, NONE)", 0, x.give(1, -1));
        due("give(2, NONE)", 1, x.give(2, -1));
        held("given", x, -1, "1 2");
        due("give(1, NONE) again", -4, x.give(1, -1));
        due("give(2, 1)", 5, x.give(2, 1));
        due("give(2, 1) again", -4, x.give(2, 1));
        due("give(3, 0)", -2, x.give(3, 0));
        due("give(-1, 0)", -2, x.give(-1, 0));
        due("give(0, 2)", -2, x.give(0, 2));
        due("give(0, 5)", -2, x.give(0, 5));
        due("give(0, -2)", -2, x.give(0, -2));
        due("count(9)", 4, x.count(9));
        x.year(1);
        due("give() of a KEPT one", -4, x.give(0, 1));
        due("give() of a KEPT one to THE CAT", -4, x.give(0, -1));
        due("give() to a dead one", -4, x.give(1, 0));
        due("give(1, 1)", 5, x.give(1, 1));
        held("behind what is held", x, 1, "2 1");
    }

    private static void shorten() {
        PromiseNames x = Check.told("man 1 9;will 0 11;ever 0 3;shun 0 2;will 0 1");
        due("shorten(0)", 6, x.shorten(0));
        x.year(3);
        due("shorten(0), DONE 3", 5, x.shorten(0));
        due("shorten(0)", 4, x.shorten(0));
        due("shorten(0), nothing off", -4, x.shorten(0));
        due("shorten(1)", 2, x.shorten(1));
        due("shorten(2)", 1, x.shorten(2));
        due("shorten(3)", -4, x.shorten(3));
        due("shorten(4)", -2, x.shorten(4));
        due("shorten(-1)", -2, x.shorten(-1));
        x.year(1);
        due("KEPT by shorter WORK", 1, x.count(4));
        due("shorten() of a KEPT one", -4, x.shorten(0));
        x = Check.told("man 1 3;will 0 9;shun 0 40");
        x.year(3);
        due("KEPT by death, DONE 0", -4, x.shorten(1));
    }

    private static void ahead() {
        PromiseNames x = Check.told("man 1 9;man 1 9;will 0 1;will 1 9;will 0 9;will 1 9;will 0 9");
        due("ahead(4)", 2, x.ahead(4));
        held("ahead", x, 0, "4 0 2");
        due("ahead(2)", 2, x.ahead(2));
        held("ahead", x, 0, "2 4 0");
        held("the other's", x, 1, "1 3");
        due("ahead(2), the first", -4, x.ahead(2));
        due("ahead(1), the first", -4, x.ahead(1));
        due("ahead(3)", 1, x.ahead(3));
        due("ahead(5)", -2, x.ahead(5));
        due("ahead(-1)", -2, x.ahead(-1));
        x.give(0, -1);
        x.give(1, -1);
        due("ahead() at THE CAT's", 1, x.ahead(1));
        held("THE CAT", x, -1, "1 0");
        x = Check.told("man 1 9;will 0 1;will 0 9;will 0 9");
        x.year(1);
        due("ahead() of a KEPT one", -4, x.ahead(0));
        due("ahead() of the first that is held", -4, x.ahead(1));
        due("ahead(2) counts no KEPT one", 1, x.ahead(2));
    }

    private static void undo() {
        PromiseNames x = Check.told("man 1 60;will 0 40");
        for (int n = 1; n <= 10; n++) {
            x.year(n);
            due("count(9)", Math.min(n, 8), x.count(9));
        }
        int year = 55;
        for (int n = 10; n >= 3; n--) {
            year -= n;
            due("undo()", n - 3, x.undo());
            due("YEAR", year, x.count(2));
            due("DONE", Math.min(year, 40), x.count(6));
            due("SPAN", 60 - year, x.person(0, 1));
        }
        due("undo() of none", -4, x.undo());
        due("YEAR 3", 3, x.count(2));
        x.year(1);
        due("undo() anew", 0, x.undo());
        due("YEAR 3 again", 3, x.count(2));
    }

    private static void undoOfEach() {
        PromiseNames x = Check.told("man 3 2;man 1 9;will 0 5;will 0 9;shun 0 1;will 1 8");
        x.give(3, 0);
        due("undo() of give()", 0, x.undo());
        held("undone", x, 0, "0 1 2");
        held("undone", x, 1, "3");
        x.shorten(1);
        due("undo() of shorten()", 0, x.undo());
        due("WORK", 9, x.promise(1, 1));
        x.ahead(2);
        due("undo() of ahead()", 0, x.undo());
        held("undone", x, 0, "0 1 2");
        x.year(2);
        due("KEPT", 5, x.count(4));
        due("undo() of year()", 0, x.undo());
        due("nothing is KEPT", 0, x.count(4));
        due("nothing is DONE", 0, x.count(6));
        due("nobody is dead", 0, x.count(3));
        held("undone", x, 0, "0 1 2");
        held("undone", x, -1, "");
    }

    private static void refusedIsNotUndone() {
        PromiseNames x = Check.told("man 3 9;will 0 1;will 0 2");
        x.year(13);
        x.give(0, 0);
        x.give(0, 3);
        x.shorten(0);
        x.shorten(7);
        x.ahead(0);
        x.ahead(-1);
        due("count(9)", 0, x.count(9));
        x.seen(1, 1, 1);
        x.register(0, 1);
        x.keep(0);
        due("nor are other calls", 0, x.count(9));
        x.year(1);
        x.undo();
        due("SEEN stays", 1, x.count(7));
        due("REGISTERS stay", 1, x.count(8));
    }

    private static void keepAndBack() {
        PromiseNames x = Check.told("man 1 9;man 2 3 0;will 0 40;will 1 40;will 0 4;shun 1 1");
        due("keep(2)", -2, x.keep(2));
        due("keep(-1)", -2, x.keep(-1));
        due("back(2)", -2, x.back(2));
        due("back(-1)", -2, x.back(-1));
        due("back(0)", -4, x.back(0));
        x.year(2);
        due("keep(0)", 2, x.keep(0));
        x.year(1);
        x.shorten(0);
        x.ahead(2);
        due("keep(1)", 3, x.keep(1));
        x.year(12);
        x.register(0, 1);
        x.seen(1, 1, 1);
        due("back(0)", 2, x.back(0));
        due("YEAR", 2, x.count(2));
        due("nothing can be undone", 0, x.count(9));
        due("undo()", -4, x.undo());
        due("SPAN 0", 7, x.person(0, 1));
        due("SPAN 1", 1, x.person(1, 1));
        due("WORK 0", 40, x.promise(0, 1));
        due("DONE of all", 2 + 4, x.count(6));
        held("back", x, 0, "0 2");
        held("back", x, 1, "1 3");
        due("REGISTERS stay", 1, x.count(8));
        due("SEEN stays", 1, x.count(7));
        x.year(2);
        due("back(1)", 3, x.back(1));
        held("back", x, 0, "2 0 1");
        due("WORK 0", 22, x.promise(0, 1));
        due("KEPT", 8, x.count(4));
        due("the dead", 2, x.count(3));
        x.year(5);
        due("back(1) once more", 3, x.back(1));
        due("keep(0) over the former", 3, x.keep(0));
        x.year(1);
        due("back(0)", 3, x.back(0));
    }
}
