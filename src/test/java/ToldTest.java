/** Promises 1 to 9: a new object, and what is told. */
public final class ToldTest {
    private static final Check CHECK = new Check();

    private static void due(String call, long want, long got) {
        CHECK.due(call, want, got);
    }

    public static void main(String[] args) {
        newObject();
        write();
        erase();
        faults();
        faultsByWhatWasTold();
        faultTwice();
        clausesAtMost();
        parish();
        laterTexts();
        laterTextEndsAll();
        person();
        holds();
        promise();
        open();
        as();
        CHECK.end();
    }

    private static void newObject() {
        PromiseNames x = new PromiseNames();
        for (int what = 0; what <= 10; what++) {
            due("new: count(" + what + ")", 0, x.count(what));
        }
        due("new: holds(NONE, 0)", -1, x.holds(-1, 0));
        due("new: kinds()", 31, x.kinds());
        for (int r = 0; r < 3; r++) {
            due("new: pages(" + r + ", 0)", -11, x.pages(r, 0));
        }
        due("new: back(0)", -4, x.back(0));
        due("new: back(1)", -4, x.back(1));
        due("new: undo()", -4, x.undo());
    }

    private static void write() {
        PromiseNames x = new PromiseNames();
        due("write(-1)", -3, x.write(-1));
        due("write(256)", -3, x.write(256));
        due("write(0)", 1, x.write(0));
        due("write(255)", 2, x.write(255));
        for (int n = 3; n <= 200; n++) {
            due("write(97)", n, x.write(97));
        }
        due("write(97), 201st", -5, x.write(97));
        due("write(256), 201st", -3, x.write(256));
        due("count(10)", 200, x.count(10));
    }

    private static void erase() {
        PromiseNames x = new PromiseNames();
        due("erase() of nothing", 0, x.erase());
        Check.write(x, "man 1 1");
        due("erase()", 7, x.erase());
        due("count(10) behind erase()", 0, x.count(10));
        due("fault() behind erase()", 0, x.fault());
        due("write() behind erase()", 1, x.write(97));
    }

    private static void fault(String text, int want) {
        PromiseNames x = new PromiseNames();
        Check.write(x, text);
        due("fault() of '" + text + "'", want, x.fault());
        due("count(10) behind fault()", text.length(), x.count(10));
        due("parish() of '" + text + "'", want == -1 ? text.split(";", -1).length : -4, x.parish());
        due("count(10) behind parish()", want == -1 ? 0 : text.length(), x.count(10));
    }

    private static void faults() {
        fault("", 0);
        fault("   ", 3);
        fault(";", 0);
        fault("parish", -1);
        fault("  parish  ", -1);
        fault("parish;", 7);
        fault("parish; ", 8);
        fault("parish;;parish", 7);
        fault("parish parish", 7);
        fault("parish 1", 7);
        fault("Parish", 0);
        fault("parishes", 0);
        fault("paris", 0);
        fault("1", 0);
        fault("man", 3);
        fault("man ", 4);
        fault("man 1", 5);
        fault("man 1;", 5);
        fault("man 1 1", -1);
        fault("man 9 60", -1);
        fault("man 01 05", -1);
        fault("man 0 1", 4);
        fault("man 10 1", 4);
        fault("man 1 0", 6);
        fault("man 1 61", 6);
        fault("man 1 001", 6);
        fault("man 001 1", 4);
        fault("man 11111111111111111111111 1", 4);
        fault("man a 1", 4);
        fault("man -1 1", 4);
        fault("man 1 1 0", 8);
        fault("man 1 1 a", 8);
        fault("man 1 1;man 1 1 0", -1);
        fault("man 1 1;man 1 1 00", -1);
        fault("man 1 1;man 1 1 1", 16);
        fault("man 1 1;man 1 1 0 0", 18);
        fault("man 1 1\t", 7);
        fault("man 1 1 ; man 2 2 ", -1);
        fault("man 1 1;man 1 1;man 1 1;man 1 1;man 1 1", -1);
        fault("man 1 1;man 1 1;man 1 1;man 1 1;man 1 1;man 1 1", 40);
        fault("will 0 1", 5);
        fault("will", 4);
        fault("man 1 1;will 0 40", -1);
        fault("man 1 1;will 0 41", 15);
        fault("man 1 1;will 0 0", 15);
        fault("man 1 1;will 1 1", 13);
        fault("man 1 1;will 0", 14);
        fault("man 1 1;will 0 1 a", 17);
        fault("man 1 1;will 0 1 1", 17);
        fault("man 1 1;will 0 1;pay 0 1 a", -1);
        fault("man 1 1;will 0 1;pay 0 1 aa", 25);
        fault("man 1 1;will 0 1;pay 0 1 b", 25);
        fault("man 1 1;will 0 1;pay 0 1 a a", 27);
        fault("man 1 1;will 0 1;pay 0 1;short 0 1 ab", -1);
        fault("man 1 1;will 0 1;pay 0 1;short 0 1 ba", 35);
        fault("man 1 1;will 0 1;pay 0 1;ever 0 1 abc", 34);
        fault("man 1 1;shun 0 1;ever 0 1 A", 26);
        fault("man 1 1;not 0 1", 8);
        fault("man 1 1;will 0 1;strife 0 0", 26);
        fault("man 1 1;will 0 1;strife 0 1", 26);
        fault("man 1 1;will 0 1;strife 1 0", 24);
        fault("strife 0 1", 7);
        fault("man 1 1;will 0 1;will 0 1;strife 0 1", -1);
        fault("man 1 1;will 0 1;will 0 1;strife 1 0", -1);
        fault("man 1 1;will 0 1;will 0 1;strife 0", 34);
        fault("man 1 1;will 0 1;will 0 1;strife 0 1 1", 37);
        fault("man 1 1;parish;will 0 1", 20);
        fault("man 1 1;will 0 1;will 0 1;parish;man 1 1;will 0 1;strife 0 1", 59);
        fault("man1 1;will0 1;pay0 1a", -1);
        fault("ban 1 1", 0);
        fault("mad 1 1", 0);
        fault("strife", 6);
        fault("strife;parish", 6);
        fault("man 1 1;will;parish", 12);
    }

    private static void faultsByWhatWasTold() {
        PromiseNames x = Check.told("man 1 1;man 1 1;man 1 1;man 1 1;man 1 1");
        Check.write(x, " man 1 1");
        due("fault() at a sixth", 1, x.fault());
        x.erase();
        Check.write(x, "parish;man 1 1");
        due("fault() behind parish", -1, x.fault());
        due("fault() changes nothing", 5, x.count(0));
        x.erase();
        for (int p = 0; p < 10; p++) {
            Check.write(x, (p == 0 ? "" : ";") + "will 4 " + (p + 1));
        }
        due("parish() of ten", 10, x.parish());
        Check.write(x, "ever 0 1");
        due("fault() at an eleventh", 0, x.fault());
        x.erase();
        Check.write(x, "strife 9 10");
        due("fault() at no PROMISE", 9, x.fault());
        x.erase();
        Check.write(x, "strife 9 8");
        due("fault() of strife by an earlier text", -1, x.fault());
    }

    private static void faultTwice() {
        PromiseNames x = new PromiseNames();
        Check.write(x, "man 1 1;man 1 1;man 1 1;will 2 1;will 2 1;will 2 1;will 2 1;will 2 1;will 2 1");
        due("fault()", -1, x.fault());
        due("fault() again", -1, x.fault());
        due("parish() behind it", 9, x.parish());
        due("PEOPLE", 3, x.count(0));
        Check.write(x, "will 3 1");
        due("fault() by what was told alone", 5, x.fault());
    }

    private static void clausesAtMost() {
        StringBuilder text = new StringBuilder("parish");
        for (int i = 1; i < 24; i++) {
            text.append(";parish");
        }
        fault(text.toString(), -1);
        fault(text + ";", text.length());
        fault(text + " ;parish", text.length() + 1);
        fault(text + " 1", text.length() + 1);
    }

    private static void parish() {
        PromiseNames x = new PromiseNames();
        Check.write(x, "man 3 5;man 5 9 0;will 0 7;pay 1 6;short 1 12 a;shun 0 5;ever 0 40 abc");
        due("parish()", 7, x.parish());
        due("count(0)", 2, x.count(0));
        due("count(1)", 5, x.count(1));
        due("count(10)", 0, x.count(10));
        due("STRENGTH 1", 5, x.person(1, 0));
        due("SPAN 1", 9, x.person(1, 1));
        due("HEIR 1", 0, x.person(1, 2));
        due("HEIR 0", -1, x.person(0, 2));
        CHECK.holds("0 holds 0 3 4", Check.held(x, 0).equals("0 3 4"));
        CHECK.holds("1 holds 1 2", Check.held(x, 1).equals("1 2"));
        for (int p = 0; p < 5; p++) {
            due("KIND " + p, p, x.promise(p, 0));
        }
        due("NEEDS 2", 1, x.promise(2, 3));
        due("NEEDS 4", 7, x.promise(4, 3));
        due("parish() of nothing", -4, x.parish());
        due("count(1) behind it", 5, x.count(1));
        Check.tell(x, "parish");
        due("count(0) behind parish", 0, x.count(0));
        due("count(1) behind parish", 0, x.count(1));
    }

    private static void laterTexts() {
        PromiseNames x = Check.told("man 2 3;man 1 9;will 0 20;will 0 2;shun 0 9;strife 0 1");
        x.shorten(0);
        x.ahead(1);
        x.year(1);
        x.give(0, 1);
        x.year(4);
        due("0 is dead", 1, x.count(3));
        Check.tell(x, "man 9 9 0;pay 2 3 c");
        due("PEOPLE", 3, x.count(0));
        due("nobody is dead", 0, x.count(3));
        due("SPAN as told", 3, x.person(0, 1));
        due("SPAN as told", 9, x.person(1, 1));
        due("WORK as told", 20, x.promise(0, 1));
        due("nothing is DONE", 0, x.count(6));
        due("nothing is KEPT", 0, x.count(4));
        due("YEAR 0", 0, x.count(2));
        CHECK.holds("order as told", Check.held(x, 0).equals("0 1 2"));
        CHECK.holds("2 holds 3", Check.held(x, 2).equals("3"));
        due("NEEDS", 4, x.promise(3, 3));
        due("peace() by the earlier strife", 13, x.peace());
        Check.tell(x, "strife 3 2");
        due("peace() by both", 5, x.peace());
        Check.tell(x, "parish;man 1 1;will 0 1;will 0 1;will 0 1;will 0 1");
        due("peace() behind parish", 15, x.peace());
    }

    private static void laterTextEndsAll() {
        PromiseNames x = Check.told("man 2 3;will 0 20");
        x.year(2);
        x.keep(0);
        x.keep(1);
        x.seen(1, 1, 1);
        x.register(0, 2);
        x.register(2, 0);
        Check.write(x, "man 1");
        due("parish() with a FAULT", -4, x.parish());
        due("undo stays", 1, x.count(9));
        due("SEEN stays", 1, x.count(7));
        due("REGISTERS stay", 2, x.count(8));
        due("YEAR stays", 2, x.count(2));
        Check.write(x, " 1");
        due("parish()", 1, x.parish());
        due("nothing can be undone", 0, x.count(9));
        due("undo()", -4, x.undo());
        due("nothing is SEEN", 0, x.count(7));
        due("REGISTERS are missing", 0, x.count(8));
        due("read() then", -11, x.read(0, 0, 0, 0));
        due("back(0)", -4, x.back(0));
        due("back(1)", -4, x.back(1));
        due("YEAR", 0, x.count(2));
    }

    private static void person() {
        PromiseNames x = Check.told("man 3 5;man 9 60 0;will 1 1;will 1 2");
        due("person(1, 0)", 9, x.person(1, 0));
        due("person(1, 1)", 60, x.person(1, 1));
        due("person(1, 2)", 0, x.person(1, 2));
        due("person(1, 3)", 2, x.person(1, 3));
        due("person(0, 3)", 0, x.person(0, 3));
        due("person(2, 0)", -2, x.person(2, 0));
        due("person(-1, 0)", -2, x.person(-1, 0));
        due("person(2, 4)", -2, x.person(2, 4));
        due("person(0, 4)", -3, x.person(0, 4));
        due("person(0, -1)", -3, x.person(0, -1));
        x.year(1);
        due("person(1, 1) behind a YEAR", 59, x.person(1, 1));
        due("person(1, 3) behind a YEAR", 1, x.person(1, 3));
    }

    private static void holds() {
        PromiseNames x = Check.told("man 3 5;man 9 60 0;will 1 1;will 0 2;ever 1 2");
        due("holds(1, 0)", 0, x.holds(1, 0));
        due("holds(1, 1)", 2, x.holds(1, 1));
        due("holds(1, 2)", -1, x.holds(1, 2));
        due("holds(1, big)", -1, x.holds(1, Integer.MAX_VALUE));
        due("holds(2, 0)", -2, x.holds(2, 0));
        due("holds(5, 0)", -2, x.holds(5, 0));
        due("holds(-2, 0)", -2, x.holds(-2, 0));
        due("holds(2, -1)", -2, x.holds(2, -1));
        due("holds(0, -1)", -3, x.holds(0, -1));
        due("holds(NONE, -1)", -3, x.holds(-1, -1));
        x.give(2, -1);
        x.give(0, -1);
        due("holds(NONE, 0)", 2, x.holds(-1, 0));
        due("holds(NONE, 1)", 0, x.holds(-1, 1));
        due("holds(NONE, 2)", -1, x.holds(-1, 2));
    }

    private static void promise() {
        PromiseNames x = Check.told("man 3 5;man 4 60 0;will 1 7;short 0 9 a;shun 0 3");
        due("promise(1, 0)", 2, x.promise(1, 0));
        due("promise(1, 1)", 9, x.promise(1, 1));
        due("promise(1, 2)", 0, x.promise(1, 2));
        due("promise(1, 3)", 1, x.promise(1, 3));
        due("promise(1, 4)", 0, x.promise(1, 4));
        due("promise(1, 5)", 0, x.promise(1, 5));
        due("promise(0, 5)", 1, x.promise(0, 5));
        due("promise(3, 0)", -2, x.promise(3, 0));
        due("promise(-1, 0)", -2, x.promise(-1, 0));
        due("promise(3, 6)", -2, x.promise(3, 6));
        due("promise(0, 6)", -3, x.promise(0, 6));
        due("promise(0, -1)", -3, x.promise(0, -1));
        x.year(2);
        due("DONE of KEPT", 7, x.promise(0, 2));
        due("KEPT: who holds", -1, x.promise(0, 4));
        due("KEPT: OPEN", 0, x.promise(0, 5));
        due("OPEN now", 1, x.promise(1, 5));
        x.give(1, -1);
        due("THE CAT's: who holds", 5, x.promise(1, 4));
        due("THE CAT's: OPEN", 1, x.promise(1, 5));
    }

    private static void open() {
        PromiseNames x = Check.told("man 9 9;will 0 1;pay 0 1;short 0 1;shun 0 1;ever 0 1;will 0 1 ab");
        due("WILL", 1, x.promise(0, 5));
        due("PAY", 1, x.promise(1, 5));
        due("SHORT", 1, x.promise(2, 5));
        due("NOT", 0, x.promise(3, 5));
        due("EVER", 0, x.promise(4, 5));
        due("needs two", 0, x.promise(5, 5));
        x.year(1);
        due("needs one yet", 0, x.promise(5, 5));
        x.year(1);
        due("needs none", 1, x.promise(5, 5));
    }

    private static void as() {
        PromiseNames x = Check.told("man 1 9;will 0 1;pay 0 1;short 0 1;shun 0 1;ever 0 1");
        int[][] want = {
            {5, 5, -4, -4, -4, -4},
            {3, 3, 3, -4, -4, -4},
            {10, 10, -4, 10, -4, -4},
            {0, -4, -4, -4, 0, -4},
            {0, -4, -4, -4, 0, 0},
        };
        for (int p = 0; p < 5; p++) {
            for (int kind = 0; kind < 6; kind++) {
                due("as(" + p + ", " + kind + ")", want[p][kind], x.as(p, kind));
            }
        }
        due("as(5, 0)", -2, x.as(5, 0));
        due("as(-1, 9)", -2, x.as(-1, 9));
        due("as(0, 6)", -3, x.as(0, 6));
        due("as(0, -1)", -3, x.as(0, -1));
        x.year(3);
        due("as() of a KEPT one", 5, x.as(0, 1));
    }
}
