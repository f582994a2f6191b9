/** Boundary cases of promises 25 to 28: what was seen, and of which kind it was. */
public final class SeenEdgesTest {
    private static final Edges EDGES = new Edges();

    public static void main(String[] args) {
        seenNumbers();
        seenFull();
        forget();
        kinds();
        attempt();
        EDGES.end(new int[] {25, 26, 27, 28}, "seen OUTSIDE FULL", "forget", "kinds", "attempt NONE");
    }

    private static void seenNumbers() {
        EDGES.edge(25, "one of STRENGTH s (1 .. 9) worked n YEARS (1 .. 9)",
            "seen 0 1 0 = OUTSIDE, seen -1 1 0 = OUTSIDE, seen 10 1 0 = OUTSIDE, seen LEAST 1 0 = OUTSIDE",
            "seen GREATEST 1 0 = OUTSIDE",
            "seen 1 0 0 = OUTSIDE, seen 1 -1 0 = OUTSIDE, seen 1 10 0 = OUTSIDE, seen 1 LEAST 0 = OUTSIDE",
            "seen 1 GREATEST 0 = OUTSIDE",
            "count 7 = 0, seen 1 1 0 = 1, seen 9 1 0 = 2, seen 1 9 0 = 3, seen 9 9 0 = 4, kinds = 24");
        EDGES.edge(25, "and d more (0 .. 200) was DONE",
            "seen 1 1 -1 = OUTSIDE, seen 1 1 201 = OUTSIDE, seen 1 1 LEAST = OUTSIDE, seen 1 1 GREATEST = OUTSIDE",
            "count 7 = 0",
            "seen 1 1 0 = 1, seen 1 1 200 = 2, kinds = 0");
    }

    private static void seenFull() {
        EDGES.edge(25, "SEEN, 6 at most",
            "5 * seen 1 1 1", "seen 1 1 1 = 6, seen 1 1 1 = FULL, seen 9 9 200 = FULL, seen 0 1 1 = OUTSIDE",
            "seen 1 10 1 = OUTSIDE",
            "seen 1 1 201 = OUTSIDE, count 7 = 6, kinds = 3, forget = 6, seen 1 1 1 = 1");
        EDGES.edge(25, "SEEN: how many. OUTSIDE; FULL.", "seen 1 1 1 = 1, seen 1 1 1 = 2, seen 2 2 4 = 3, count 7 = 3");
    }

    private static void forget() {
        EDGES.edge(26, "SEEN is nothing: how many there were.",
            "forget = 0, seen 4 2 8 = 1, forget = 1, forget = 0, count 7 = 0, kinds = 31, attempt = 1, seen 4 2 6 = 1",
            "kinds = 2");
        EDGES.edge(26, "SEEN is nothing: how many there were.", "6 * seen 4 2 8", "forget = 6, count 7 = 0, kinds = 31");
    }

    private static void kinds() {
        EDGES.edge(27, "KINDS (0 .. 4, by bits) by which all that is SEEN would be so.",
            "kinds = 31, seen 4 2 8 = 1, kinds = 1");
        EDGES.edge(27, "KINDS, by bits.",
            "seen 4 2 6 = 1, kinds = 2, forget = 1, seen 4 2 16 = 1, kinds = 4, forget = 1, seen 4 2 0 = 1, kinds = 24");
        EDGES.edge(27, "KINDS, by bits.",
            "seen 1 1 1 = 1, kinds = 3, forget = 1, seen 2 9 18 = 1, kinds = 3, forget = 1, seen 9 9 162 = 1",
            "kinds = 4, forget = 1",
            "seen 9 9 163 = 1, kinds = 0, forget = 1, seen 9 9 161 = 1, kinds = 0, forget = 1, seen 9 9 81 = 1",
            "kinds = 1, forget = 1",
            "seen 9 9 45 = 1, kinds = 2, forget = 1, seen 3 9 18 = 1, kinds = 2, forget = 1, seen 1 1 2 = 1, kinds = 4");
        EDGES.edge(27, "by which all that is SEEN would be so",
            "5 * seen 1 3 3", "kinds = 3, seen 3 1 2 = 6, kinds = 2");
        EDGES.edge(27, "by which all that is SEEN would be so",
            "seen 3 1 3 = 1", "5 * seen 1 3 3", "kinds = 1, forget = 6, seen 3 1 3 = 1, seen 3 1 2 = 2, kinds = 0",
            "seen 3 1 0 = 3, kinds = 0");
    }

    private static void attempt() {
        EDGES.edge(28, "the greatest part that is alike is least; of like ones the least",
            "attempt = 1, seen 1 1 1 = 1, attempt = 3");
        EDGES.edge(28, "none (none parts them)",
            "seen 3 1 3 = 1, attempt = NONE, forget = 1, seen 3 1 2 = 1, attempt = NONE, forget = 1, seen 3 1 6 = 1",
            "attempt = NONE, forget = 1",
            "seen 3 1 0 = 1, kinds = 24, attempt = NONE, forget = 1, seen 3 1 5 = 1, kinds = 0, attempt = NONE",
            "forget = 1, attempt = 1");
    }
}
