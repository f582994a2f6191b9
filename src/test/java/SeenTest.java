/** Promises 25 to 28: what was seen, and of which kind it was. */
public final class SeenTest {
    private static final Check CHECK = new Check();

    private static void due(String call, long want, long got) {
        CHECK.due(call, want, got);
    }

    public static void main(String[] args) {
        seen();
        forget();
        kinds();
        attempt();
        CHECK.end();
    }

    private static void seen() {
        PromiseNames x = new PromiseNames();
        int[][] wrong = {{0, 1, 0}, {10, 1, 0}, {1, 0, 0}, {1, 10, 0}, {1, 1, -1}, {1, 1, 201}};
        for (int[] w : wrong) {
            due("seen(" + java.util.Arrays.toString(w) + ")", -3, x.seen(w[0], w[1], w[2]));
        }
        due("count(7)", 0, x.count(7));
        due("seen(1, 1, 0)", 1, x.seen(1, 1, 0));
        due("seen(9, 9, 200)", 2, x.seen(9, 9, 200));
        for (int n = 3; n <= 6; n++) {
            due("seen(1, 1, 1)", n, x.seen(1, 1, 1));
        }
        due("a seventh", -5, x.seen(1, 1, 1));
        due("a wrong seventh", -3, x.seen(0, 1, 1));
        due("count(7)", 6, x.count(7));
    }

    private static void forget() {
        PromiseNames x = new PromiseNames();
        due("forget() of nothing", 0, x.forget());
        x.seen(1, 1, 1);
        x.seen(1, 1, 5);
        due("forget()", 2, x.forget());
        due("count(7)", 0, x.count(7));
        due("kinds()", 31, x.kinds());
    }

    private static int kindsBy(int... seen) {
        PromiseNames x = new PromiseNames();
        for (int i = 0; i + 2 < seen.length; i += 3) {
            x.seen(seen[i], seen[i + 1], seen[i + 2]);
        }
        return x.kinds();
    }

    private static void kinds() {
        due("nothing SEEN", 31, kindsBy());
        due("WILL", 1, kindsBy(4, 2, 8));
        due("PAY", 2, kindsBy(4, 2, 6));
        due("SHORT", 4, kindsBy(4, 2, 16));
        due("NOT, EVER", 24, kindsBy(4, 2, 0));
        due("WILL, PAY", 3, kindsBy(1, 3, 3));
        due("none", 0, kindsBy(4, 2, 7));
        due("both fit", 1, kindsBy(1, 3, 3, 3, 1, 3));
        due("against one another", 0, kindsBy(4, 2, 8, 4, 2, 6));
        due("the most", 4, kindsBy(9, 9, 162));
    }

    private static void attempt() {
        PromiseNames x = new PromiseNames();
        due("of all", 1, x.attempt());
        x.seen(2, 1, 2);
        due("of WILL and PAY", 3, x.attempt());
        x.seen(3, 1, 3);
        due("of WILL", -1, x.attempt());
        x.seen(3, 1, 2);
        due("of none", -1, x.attempt());
        x.forget();
        x.seen(3, 1, 0);
        due("of NOT and EVER", -1, x.attempt());
    }
}
