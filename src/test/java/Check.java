/** Counts answers that are not as due, and tells them. */
final class Check {
    private int looked, wrong;

    void due(String call, long want, long got) {
        looked++;
        if (want != got) {
            wrong++;
            System.out.println(call + " answered " + got + ", due is " + want);
        }
    }

    void holds(String what, boolean isSo) {
        looked++;
        if (!isSo) {
            wrong++;
            System.out.println("not so: " + what);
        }
    }

    /** Ends the program, with exit code 1 if anything was wrong. */
    void end() {
        System.out.println(looked + " answers looked at, " + wrong + " wrong");
        System.exit(wrong == 0 && looked > 0 ? 0 : 1);
    }

    /** Writes a whole text, letter by letter. */
    static void write(PromiseNames x, String text) {
        for (int i = 0; i < text.length(); i++) {
            x.write(text.charAt(i));
        }
    }

    /** A new object, told by one text that must have no fault. */
    static PromiseNames told(String text) {
        PromiseNames x = new PromiseNames();
        tell(x, text);
        return x;
    }

    static void tell(PromiseNames x, String text) {
        write(x, text);
        if (x.parish() < 0) {
            throw new IllegalStateException("a test's own text has a fault: " + text);
        }
    }

    /** What somebody holds, in order, as a text: "2 0 1". */
    static String held(PromiseNames x, int person) {
        StringBuilder all = new StringBuilder();
        for (int k = 0; x.holds(person, k) >= 0; k++) {
            all.append(k == 0 ? "" : " ").append(x.holds(person, k));
        }
        return all.toString();
    }
}
