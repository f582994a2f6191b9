/** Promises 29 to 37: registers, pages, lines, and what is counted. */
public final class RegistersTest {
    private static final Check CHECK = new Check();

    private static void due(String call, long want, long got) {
        CHECK.due(call, want, got);
    }

    public static void main(String[] args) {
        register();
        page();
        bind();
        same();
        enter();
        read();
        pages();
        drop();
        count();
        CHECK.end();
    }

    private static void register() {
        PromiseNames x = new PromiseNames();
        due("register(-1, 1)", -2, x.register(-1, 1));
        due("register(3, 9)", -2, x.register(3, 9));
        due("register(0, 6)", -3, x.register(0, 6));
        due("register(0, -1)", -17, x.register(0, -1));
        due("nothing changed", 0, x.count(8));
        due("register(0, 0)", 0, x.register(0, 0));
        due("register(2, 5)", 5, x.register(2, 5));
        due("count(8)", 2, x.count(8));
        x.page(2, 1, 3);
        due("register(2, 2) anew", 2, x.register(2, 2));
        due("its PAGES", 2, x.pages(2, 0));
        due("all missing", 0, x.pages(2, 1));
        x.page(2, 1, 3);
        due("register(2, -5)", -17, x.register(2, Integer.MIN_VALUE));
        due("as it was", 1, x.pages(2, 1));
    }

    private static void page() {
        PromiseNames x = new PromiseNames();
        due("page(3, 0, 7)", -2, x.page(3, 0, 7));
        due("page(-1, 0, 1)", -2, x.page(-1, 0, 1));
        due("page(0, 0, 7)", -3, x.page(0, 0, 7));
        due("page(0, 9, -1)", -11, x.page(0, 9, -1));
        x.register(0, 2);
        due("page(0, 2, -1)", -12, x.page(0, 2, -1));
        due("page(0, -1, 1)", -12, x.page(0, -1, 1));
        due("page(0, 1, -1)", -17, x.page(0, 1, -1));
        due("nothing changed", 0, x.pages(0, 1));
        due("page(0, 0, 6)", 6, x.page(0, 0, 6));
        due("page(0, 1, 0)", 0, x.page(0, 1, 0));
        x.enter(0, 0, 5, 0, 1);
        due("page(0, 0, 6) anew", 6, x.page(0, 0, 6));
        due("it has nothing", -15, x.read(0, 0, 5, 0));
    }

    private static void bind() {
        PromiseNames x = new PromiseNames();
        due("bind(3, 0, 0, 0)", -2, x.bind(3, 0, 0, 0));
        due("bind(0, 0, -1, 0)", -2, x.bind(0, 0, -1, 0));
        due("bind(0, 0, 0, 0)", -11, x.bind(0, 0, 0, 0));
        x.register(0, 2);
        due("bind(0, 9, 1, 0)", -11, x.bind(0, 9, 1, 0));
        due("bind(1, 0, 0, 9)", -11, x.bind(1, 0, 0, 9));
        x.register(1, 3);
        due("bind(0, 2, 1, 0)", -12, x.bind(0, 2, 1, 0));
        due("bind(0, 0, 1, 3)", -12, x.bind(0, 0, 1, 3));
        due("bind(0, 0, 1, -1)", -12, x.bind(0, 0, 1, -1));
        x.page(0, 0, 2);
        due("bind(0, 0, 1, 2)", 1, x.bind(0, 0, 1, 2));
        due("bind(0, 0, 0, 1)", 1, x.bind(0, 0, 0, 1));
        x.enter(1, 2, 1, 0, 5);
        due("the same one", 50005, x.read(0, 0, 1, 0));
        due("the same one", 50005, x.read(0, 1, 1, 0));
        due("bind(1, 0, 0, 0), missing", 1, x.bind(1, 0, 0, 0));
        due("missing now", -13, x.read(0, 0, 1, 0));
        due("there yet", 50005, x.read(0, 1, 1, 0));
        x.page(0, 1, 6);
        due("a new one is another", 50005, x.read(1, 2, 1, 0));
    }

    private static void same() {
        PromiseNames x = new PromiseNames();
        due("same(0, 0, 3, 0)", -2, x.same(0, 0, 3, 0));
        due("same(-1, 0, 0, 0)", -2, x.same(-1, 0, 0, 0));
        x.register(0, 3);
        due("same(0, 9, 1, 0)", -11, x.same(0, 9, 1, 0));
        x.register(1, 1);
        due("same(0, 0, 1, 1)", -12, x.same(0, 0, 1, 1));
        due("same(0, 3, 1, 0)", -12, x.same(0, 3, 1, 0));
        due("same(0, 0, 0, 0)", -13, x.same(0, 0, 0, 0));
        x.page(0, 0, 1);
        due("same(0, 0, 1, 0)", -13, x.same(0, 0, 1, 0));
        due("same(1, 0, 0, 0)", -13, x.same(1, 0, 0, 0));
        due("same(0, 0, 0, 0)", 1, x.same(0, 0, 0, 0));
        x.page(1, 0, 1);
        due("alike is not the same", 0, x.same(0, 0, 1, 0));
        x.bind(1, 0, 0, 2);
        due("same(0, 2, 1, 0)", 1, x.same(0, 2, 1, 0));
    }

    private static void enter() {
        PromiseNames x = Check.told("man 1 1;will 0 1;will 0 1");
        due("enter(3, 0, 0, 9, 0)", -2, x.enter(3, 0, 0, 9, 0));
        due("enter(0, 0, 0, 1, 2)", -2, x.enter(0, 0, 0, 1, 2));
        due("enter(0, 0, 0, 1, -1)", -2, x.enter(0, 0, 0, 1, -1));
        due("enter(0, 0, 0, 3, 0)", -3, x.enter(0, 0, 0, 3, 0));
        due("enter(0, 0, 0, -1, 0)", -3, x.enter(0, 0, 0, -1, 0));
        due("enter(0, 0, 0, 0, 10000)", -3, x.enter(0, 0, 0, 0, 10000));
        due("enter(0, 0, 0, 0, -10000)", -3, x.enter(0, 0, 0, 0, -10000));
        due("enter(0, 0, 0, 0, 1)", -11, x.enter(0, 0, 0, 0, 1));
        x.register(0, 1);
        due("enter(0, 1, 0, 0, 1)", -12, x.enter(0, 1, 0, 0, 1));
        due("enter(0, -1, 0, 0, 1)", -12, x.enter(0, -1, 0, 0, 1));
        due("enter(0, 0, 9, 0, 1)", -13, x.enter(0, 0, 9, 0, 1));
        x.page(0, 0, 2);
        due("enter(0, 0, 2, 0, 1)", -14, x.enter(0, 0, 2, 0, 1));
        due("enter(0, 0, -1, 2, 1)", -14, x.enter(0, 0, -1, 2, 1));
        due("enter(0, 0, 0, 0, 9999)", 1, x.enter(0, 0, 0, 0, 9999));
        due("enter(0, 0, 1, 1, 1)", 1, x.enter(0, 0, 1, 1, 1));
        due("a number", 59999, x.read(0, 0, 0, 0));
        due("a PROMISE", 1, x.read(0, 0, 1, 1));
        due("enter(0, 0, 1, 2, 123456)", 1, x.enter(0, 0, 1, 2, 123456));
        due("nothing", -15, x.read(0, 0, 1, 1));
        due("enter(0, 0, 0, 1, 0)", 1, x.enter(0, 0, 0, 1, 0));
        due("a PROMISE now", 0, x.read(0, 0, 0, 1));
    }

    private static void read() {
        PromiseNames x = Check.told("man 1 1;will 0 1;will 0 1");
        due("read(3, 0, 0, 2)", -2, x.read(3, 0, 0, 2));
        due("read(-1, 0, 0, 0)", -2, x.read(-1, 0, 0, 0));
        due("read(0, 0, 0, 2)", -3, x.read(0, 0, 0, 2));
        due("read(0, 0, 0, -1)", -3, x.read(0, 0, 0, -1));
        due("read(0, 9, 9, 0)", -11, x.read(0, 9, 9, 0));
        x.register(0, 2);
        due("read(0, 2, 9, 0)", -12, x.read(0, 2, 9, 0));
        due("read(0, -1, 0, 0)", -12, x.read(0, -1, 0, 0));
        due("read(0, 0, 9, 0)", -13, x.read(0, 0, 9, 0));
        x.page(0, 0, 3);
        due("read(0, 0, 3, 0)", -14, x.read(0, 0, 3, 0));
        due("read(0, 0, -1, 0)", -14, x.read(0, 0, -1, 0));
        due("read(0, 0, 0, 0)", -15, x.read(0, 0, 0, 0));
        due("read(0, 0, 0, 1)", -15, x.read(0, 0, 0, 1));
        x.enter(0, 0, 0, 0, -9999);
        x.enter(0, 0, 1, 1, 1);
        due("as a number", 40001, x.read(0, 0, 0, 0));
        due("number as a PROMISE", -16, x.read(0, 0, 0, 1));
        due("as a PROMISE", 1, x.read(0, 0, 1, 1));
        due("PROMISE as a number", -16, x.read(0, 0, 1, 0));
        x.year(1);
        due("a KEPT one's number stays", 1, x.read(0, 0, 1, 1));
    }

    private static void pages() {
        PromiseNames x = Check.told("man 1 1;will 0 1;will 0 1");
        due("pages(3, 4)", -2, x.pages(3, 4));
        due("pages(0, 4)", -3, x.pages(0, 4));
        due("pages(0, -1)", -3, x.pages(0, -1));
        due("pages(0, 0)", -11, x.pages(0, 0));
        x.register(0, 5);
        x.page(0, 0, 3);
        x.page(0, 3, 2);
        x.bind(0, 0, 0, 1);
        x.bind(0, 3, 0, 4);
        x.enter(0, 1, 2, 0, 0);
        x.enter(0, 3, 0, 1, 0);
        x.enter(0, 4, 1, 0, 8);
        due("pages(0, 0)", 5, x.pages(0, 0));
        due("pages(0, 1)", 4, x.pages(0, 1));
        due("pages(0, 2)", 2, x.pages(0, 2));
        due("pages(0, 3)", 3, x.pages(0, 3));
        x.enter(0, 4, 1, 2, 8);
        due("pages(0, 3), one less", 2, x.pages(0, 3));
        x.register(1, 0);
        for (int what = 0; what < 4; what++) {
            due("pages(1, " + what + ")", 0, x.pages(1, what));
        }
    }

    private static void drop() {
        PromiseNames x = new PromiseNames();
        due("drop(-1)", -2, x.drop(-1));
        due("drop(3)", -2, x.drop(3));
        due("drop(1)", -11, x.drop(1));
        x.register(1, 4);
        x.register(2, 1);
        x.page(1, 0, 1);
        x.bind(1, 0, 2, 0);
        x.enter(1, 0, 0, 0, 3);
        due("drop(1)", 4, x.drop(1));
        due("drop(1) again", -11, x.drop(1));
        due("the PAGE stays elsewhere", 50003, x.read(2, 0, 0, 0));
        x.register(0, 0);
        due("drop(0)", 0, x.drop(0));
        due("count(8)", 1, x.count(8));
    }

    private static void count() {
        PromiseNames x = Check.told("man 2 2;man 1 9;man 5 1;will 0 2;will 0 9;ever 2 1;will 1 40");
        due("count(-1)", -3, x.count(-1));
        due("count(11)", -3, x.count(11));
        x.year(2);
        x.give(3, -1);
        x.seen(1, 1, 1);
        x.register(2, 2);
        x.write(65);
        x.write(32);
        int[] want = {3, 4, 2, 5, 1, 3, 2 + 2 + 2, 1, 1, 2, 2};
        for (int what = 0; what < want.length; what++) {
            due("count(" + what + ")", want[what], x.count(what));
        }
    }
}
