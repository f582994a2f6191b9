/** Promises 17 to 24: what is foretold, the best orders and godfathers, peace, odds of idle years. */
public final class ForetoldTest {
    private static final Check CHECK = new Check();

    private static void due(String call, long want, long got) {
        CHECK.due(call, want, got);
    }

    public static void main(String[] args) {
        behind();
        keeps();
        just();
        stuck();
        order();
        orderFirstOfSeveral();
        orderAmongOthers();
        orderRefused();
        godfathers();
        godfathersLeft();
        godfathersOneBehindTheOther();
        godfathersNotTheDead();
        peace();
        idle();
        nothingChanges();
        CHECK.end();
    }

    private static void behind() {
        PromiseNames x = Check.told("man 2 3;man 1 6 0;will 0 5;will 0 40;shun 1 4");
        due("behind(0, 0, 0)", 0, x.behind(0, 0, 0));
        due("behind(0, 2, 0)", 4, x.behind(0, 2, 0));
        due("behind(0, 3, 0)", 5, x.behind(0, 3, 0));
        due("behind(0, 2, 1)", 0, x.behind(0, 2, 1));
        due("behind(0, 3, 1)", -1, x.behind(0, 3, 1));
        due("behind(1, 2, 1)", 0, x.behind(1, 2, 1));
        due("behind(1, 3, 1)", 5, x.behind(1, 3, 1));
        due("behind(2, 5, 1)", 1, x.behind(2, 5, 1));
        due("behind(2, 60, 1)", -1, x.behind(2, 60, 1));
        due("behind(3, 0, 0)", -2, x.behind(3, 0, 0));
        due("behind(-1, 61, 0)", -2, x.behind(-1, 61, 0));
        due("behind(0, 61, 0)", -3, x.behind(0, 61, 0));
        due("behind(0, -1, 0)", -3, x.behind(0, -1, 0));
        due("behind(0, 0, 2)", -3, x.behind(0, 0, 2));
        due("behind(0, 0, -1)", -3, x.behind(0, 0, -1));
    }

    private static void keeps() {
        PromiseNames x = Check.told("man 1 60;man 1 60;will 0 30;will 0 30;shun 1 1;ever 0 1;pay 0 1 d;will 1 9");
        due("keeps(0)", 30, x.keeps(0));
        due("keeps(1) in the last YEAR", 60, x.keeps(1));
        due("keeps(2) by death", 60, x.keeps(2));
        due("keeps(3)", -1, x.keeps(3));
        due("keeps(4)", -1, x.keeps(4));
        due("keeps(5)", 9, x.keeps(5));
        due("keeps(6)", -2, x.keeps(6));
        due("keeps(-1)", -2, x.keeps(-1));
        x.year(9);
        due("keeps(5), KEPT", 0, x.keeps(5));
        due("keeps(0) then", 21, x.keeps(0));
        x.give(0, -1);
        due("keeps(0), THE CAT's", -1, x.keeps(0));
        for (int i = 0; i < 82; i++) {
            x.year(12);
        }
        due("keeps(5) in 993", 0, x.keeps(5));
        due("behind() beyond 999", 9, x.behind(5, 60, 0));
    }

    private static void just() {
        PromiseNames x = Check.told("man 2 5;man 1 9;man 3 4;man 1 60;will 0 5;shun 2 9;will 3 40;will 3 20");
        due("just(0)", 3, x.just(0));
        due("just(1), holds nothing", 0, x.just(1));
        due("just(2), dies of it", -1, x.just(2));
        due("just(3), in the YEAR of death", -1, x.just(3));
        due("just(4)", -2, x.just(4));
        due("just(-1)", -2, x.just(-1));
        x.shorten(3);
        due("just(3), shortened", 50, x.just(3));
        x.year(5);
        due("just(0), dead", -1, x.just(0));
        x = Check.told("man 1 9;man 9 2 0;will 0 3;will 1 40");
        due("just(0), ahead of what it inherits", -1, x.just(0));
        x.give(0, 1);
        due("just(0), free for now", 0, x.just(0));
        x = Check.told("man 1 4;will 0 3");
        due("just(0), with one YEAR left", 3, x.just(0));
        x = Check.told("man 1 3;will 0 3");
        due("just(0), with none left", -1, x.just(0));
    }

    private static void stuck() {
        PromiseNames x = Check.told("man 1 60;ever 0 1;will 0 1 a;pay 0 1 b;short 0 1 ac;shun 0 1 a;will 0 1 e;will 0 1;ever 0 2 g;will 0 1 gh");
        due("stuck()", 1 | 2 | 4 | 8 | 128 | 256, x.stuck());
        x.year(12);
        due("stuck() behind YEARS", 1 | 2 | 4 | 8 | 128 | 256, x.stuck());
        x = Check.told("man 1 2;will 0 1;shun 0 1");
        due("stuck() of none", 0, x.stuck());
        x.year(2);
        due("stuck(), all KEPT", 0, x.stuck());
    }

    private static void orders(PromiseNames x, int person, int n, int most, int... want) {
        String call = "order(" + person + ", " + n + ", ";
        due(call + "NONE)", most, x.order(person, n, -1));
        for (int k = 0; k < want.length; k++) {
            due(call + k + ")", want[k], x.order(person, n, k));
        }
        due(call + want.length + ")", -1, x.order(person, n, want.length));
    }

    private static void order() {
        PromiseNames x = Check.told("man 1 60;will 0 5;will 0 3;will 0 1;will 0 2");
        orders(x, 0, 1, 1, 2, 0, 1, 3);
        orders(x, 0, 3, 2, 2, 3, 0, 1);
        orders(x, 0, 5, 2, 1, 2, 0, 3);
    }

    private static void orderFirstOfSeveral() {
        PromiseNames x = Check.told("man 1 60;will 0 1;will 0 1;will 0 1;will 0 1;will 0 1");
        x.ahead(3);
        x.ahead(4);
        orders(x, 0, 30, 5, 0, 1, 2, 3, 4);
        orders(x, 0, 1, 1, 0, 1, 2, 3, 4);
        x = Check.told("man 1 60");
        orders(x, 0, 30, 0);
    }

    private static void orderAmongOthers() {
        PromiseNames x = Check.told("man 1 9;man 1 9;will 0 2;will 0 2;will 1 1 b;will 1 1 c");
        orders(x, 0, 4, 4, 1, 0);
        orders(x, 0, 2, 1, 0, 1);
        orders(x, 1, 4, 2, 2, 3);
        x.year(2);
        orders(x, 0, 2, 2, 1);
    }

    private static void orderRefused() {
        PromiseNames x = Check.told("man 1 9;man 1 1;will 0 1;will 0 1;will 0 1;will 0 1;will 0 1;will 0 1");
        due("order() of six", -1, x.order(0, 1, -1));
        due("order() of six", -1, x.order(0, 1, 0));
        due("order(0, 0, 0)", -3, x.order(0, 0, 0));
        due("order(0, 31, 0)", -3, x.order(0, 31, 0));
        due("order(0, 1, -2)", -3, x.order(0, 1, -2));
        due("order(2, 0, -2)", -2, x.order(2, 0, -2));
        due("order(-1, 1, 0)", -2, x.order(-1, 1, 0));
        x.year(1);
        due("order() of five", 2, x.order(0, 1, -1));
        due("order(), k big", -1, x.order(0, 1, Integer.MAX_VALUE));
        due("order() of a dead one", 6, x.order(1, 30, -1));
        due("order() of a dead one", -1, x.order(1, 30, 0));
    }

    private static void godfathers(PromiseNames x, int n, int most, int first, int second, int third) {
        String call = "godfathers(" + n + ", ";
        due(call + "NONE)", most, x.godfathers(n, -1));
        due(call + "0)", first, x.godfathers(n, 0));
        due(call + "1)", second, x.godfathers(n, 1));
        due(call + "2)", third, x.godfathers(n, 2));
    }

    private static void toTheCat(PromiseNames x, int... promises) {
        for (int p : promises) {
            x.give(p, -1);
        }
    }

    private static void godfathers() {
        PromiseNames x = Check.told("man 1 60;man 5 60;will 0 5;will 0 10;will 0 3;will 0 1");
        toTheCat(x, 1, 2, 0, 3);
        godfathers(x, 0, 0, -1, -1, -1);
        godfathers(x, 1, 1, -1, -1, 1);
        godfathers(x, 2, 2, -1, 1, 1);
        godfathers(x, 3, 3, 1, 0, 1);
        godfathers(x, 4, 3, 1, 0, 1);
        due("godfathers(-1, 0)", -3, x.godfathers(-1, 0));
        due("godfathers(31, 0)", -3, x.godfathers(31, 0));
        due("godfathers(30, 0)", 0, x.godfathers(30, 0));
        due("godfathers(0, -2)", -3, x.godfathers(0, -2));
        due("godfathers(0, 3)", -3, x.godfathers(0, 3));
    }

    private static void godfathersLeft() {
        PromiseNames x = Check.told("man 1 60;will 0 5;ever 0 1");
        godfathers(x, 5, 1, -1, -1, -1);
        toTheCat(x, 1);
        godfathers(x, 30, 1, -1, -1, -1);
        toTheCat(x, 0);
        godfathers(x, 30, 1, -1, 0, -1);
    }

    private static void godfathersOneBehindTheOther() {
        PromiseNames x = Check.told("man 1 60;will 0 5;will 0 4");
        toTheCat(x, 0, 1);
        godfathers(x, 9, 2, 0, 0, -1);
        godfathers(x, 8, 1, -1, 0, -1);
        x.ahead(1);
        godfathers(x, 9, 2, 0, 0, -1);
        godfathers(x, 4, 1, 0, -1, -1);
    }

    private static void godfathersNotTheDead() {
        PromiseNames x = Check.told("man 9 1;man 1 60;will 1 2;shun 1 3");
        toTheCat(x, 0, 1);
        godfathers(x, 1, 2, 0, 0, -1);
        x.year(1);
        godfathers(x, 2, 1, 1, -1, -1);
        x.year(12);
        x.year(12);
        x.year(12);
        godfathers(x, 23, 2, 1, 1, -1);
        godfathers(x, 22, 1, 1, -1, -1);
    }

    private static void peace() {
        due("peace() of nobody", 0, new PromiseNames().peace());
        PromiseNames x = Check.told("man 9 9;will 0 1;will 0 1;will 0 1;will 0 1");
        due("peace() without STRIFE", 15, x.peace());
        Check.tell(x, "strife 0 1");
        due("the least of several", 13, x.peace());
        x.year(1);
        due("KEPT or not", 13, x.peace());
        Check.tell(x, "strife 2 3;strife 3 2");
        due("two pairs", 5, x.peace());
        Check.tell(x, "strife 0 2;strife 0 3");
        due("one against all", 6, x.peace());
        Check.tell(x, "strife 1 2;strife 3 1");
        due("all against all", 1, x.peace());
        x = Check.told("man 9 9;will 0 1;will 0 1;will 0 1;will 0 1;strife 3 0;strife 3 1;strife 3 2");
        due("most, not least", 7, x.peace());
        x = Check.told("man 9 9;will 0 1;will 0 1;will 0 1;strife 0 1;strife 0 2");
        due("most, not the first one's", 6, x.peace());
    }

    private static void idle(int n, int q, int m, int above, int below) {
        PromiseNames x = new PromiseNames();
        String call = "idle(" + n + ", " + q + ", " + m + ", ";
        due(call + "0)", above, x.idle(n, q, m, 0));
        due(call + "1)", below, x.idle(n, q, m, 1));
    }

    private static void idle() {
        idle(0, 5, 0, 1, 1);
        idle(0, 5, 1, 0, 1);
        idle(1, 3, 1, 7, 10);
        idle(1, 5, 1, 1, 2);
        idle(2, 5, 1, 3, 4);
        idle(2, 10, 1, 0, 1);
        idle(2, 10, 0, 1, 1);
        idle(9, 0, 9, 1, 1);
        idle(9, 1, 9, 387420489, 1000000000);
        idle(9, 9, 9, 1, 1000000000);
        idle(9, 9, 0, 1, 1);
        idle(9, 3, 4, 487352579, 500000000);
        idle(3, 2, 2, 112, 125);
        PromiseNames x = new PromiseNames();
        int[][] wrong = {{10, 0, 0, 0}, {-1, 0, 0, 0}, {0, 11, 0, 0}, {0, -1, 0, 0}, {0, 0, 10, 0}, {0, 0, -1, 0}, {0, 0, 0, 2}, {0, 0, 0, -1}};
        for (int[] w : wrong) {
            due("idle(" + java.util.Arrays.toString(w) + ")", -3, x.idle(w[0], w[1], w[2], w[3]));
        }
    }

    private static void nothingChanges() {
        PromiseNames x = Check.told("man 2 9;man 3 4 0;will 0 9;will 0 9;shun 1 1;pay 1 9;will 0 2");
        toTheCat(x, 0, 3);
        x.behind(0, 60, 0);
        x.keeps(1);
        x.just(0);
        x.stuck();
        x.order(0, 30, 0);
        x.godfathers(30, 0);
        x.peace();
        due("YEAR", 0, x.count(2));
        due("DONE", 0, x.count(6));
        due("KEPT", 0, x.count(4));
        due("the dead", 0, x.count(3));
        due("undone", 2, x.count(9));
        CHECK.holds("0 holds 1 4", Check.held(x, 0).equals("1 4"));
        CHECK.holds("1 holds 2", Check.held(x, 1).equals("2"));
        CHECK.holds("THE CAT holds 0 3", Check.held(x, -1).equals("0 3"));
    }
}
