/** Boundary cases of promises 4 and 5, fault and parish: what a text may tell, and what it leaves behind. */
public final class TextEdgesTest {
    private static final Edges EDGES = new Edges();
    private static final String[] KINDS = {"will", "pay", "short", "shun", "ever"};
    private static final String FIVE = "man 1 9;man 2 9;man 3 9;man 4 9;man 5 9";
    private static final String TEN = "man 1 9;" + "will 0 9;".repeat(9) + "will 0 9";

    public static void main(String[] args) {
        people();
        heirs();
        sixth();
        promises();
        needs();
        eleventh();
        strife();
        numbers();
        tokens();
        words();
        blanks();
        ends();
        tooMuch();
        clauses();
        letters();
        order();
        parish();
        allAsAtFirst();
        earlierTexts();
        behindAText();
        EDGES.end(new int[] {4, 5}, "fault NONE", "parish NOT");
    }

    private static void people() {
        EDGES.faults("of STRENGTH S, 1 to 9",
            "man ^0 5", "man ^00 5", "man 1 5", "man 9 5", "man ^10 5", "man ^99 5");
        EDGES.faults("SPAN Y, 1 to 60",
            "man 5 ^0", "man 5 ^00", "man 5 1", "man 5 60", "man 5 ^61", "man 5 ^99");
        EDGES.edge(5, "man: one more, of STRENGTH S, 1 to 9, SPAN Y, 1 to 60",
            "told man 1 60;man 9 1",
            "count 0 = 2, person 0 0 = 1, person 0 1 = 60, person 1 0 = 9, person 1 1 = 1");
    }

    private static void heirs() {
        EDGES.faults("HEIR H, another one told ahead (else none)",
            "man 1 5 ^0", "man 1 5;man 1 5 0", "man 1 5;man 1 5 ^1", "man 1 5;man 1 5 ^2;man 1 5",
            "man 1 5;man 1 5;man 1 5;man 1 5;man 1 5 3", "man 1 5;man 1 5;man 1 5;man 1 5;man 1 5 ^4");
        EDGES.faultsBehind("man 1 5;man 1 5", "HEIR H, another one told ahead (else none)", "man 1 5 1", "man 1 5 ^2");
        EDGES.edge(5, "HEIR H, another one told ahead (else none)",
            "told man 1 5;man 1 5 0;man 1 5",
            "person 0 2 = NONE, person 1 2 = 0, person 2 2 = NONE");
    }

    private static void sixth() {
        String sentence = "a sixth cannot stand there (at its word)";
        EDGES.faults(sentence, FIVE, FIVE + ";^man 1 9", FIVE + "; ^man", FIVE + ";^man 0 99", FIVE + ";will 4 1");
        EDGES.faultsBehind(FIVE, sentence, "^man 1 9", " ^man", "will 4 1;^man 1 9", "parish;man 1 9", "parish;" + FIVE);
        EDGES.edge(5, "PEOPLE are 0, 1 .., 5 at most (none at first)",
            "count 0 = 0", "told man 1 9;man 2 9;man 3 9;man 4 9", "count 0 = 4", "told man 5 9 3", "count 0 = 5",
            "person 4 0 = 5, person 4 2 = 3, person 5 0 = UNKNOWN",
            "text man 6 9", "parish = NOT, count 0 = 5, erase = 7");
    }

    private static void promises() {
        for (String kind : KINDS) {
            EDGES.faults("HELD by P, told ahead",
                kind + " ^0 1", "man 1 9;" + kind + " 0 1", "man 1 9;" + kind + " 00 1", "man 1 9;" + kind + " ^1 1",
                FIVE + ";" + kind + " 4 1", FIVE + ";" + kind + " ^5 1", "man 1 9;" + kind + " ^99 1;man 1 9");
            EDGES.faults("WORK W, 1 to 40",
                "man 1 9;" + kind + " 0 ^0", "man 1 9;" + kind + " 0 1", "man 1 9;" + kind + " 0 40",
                "man 1 9;" + kind + " 0 ^41", "man 1 9;" + kind + " 0 ^99");
        }
        EDGES.edge(5, "behind what that one holds, WORK W, 1 to 40",
            "told man 1 9;man 1 9;will 1 40;pay 0 1;short 1 2;shun 1 3;ever 0 4",
            "held 0 = 1 4, held 1 = 0 2 3, held NONE =",
            "promise 0 0 = 0, promise 1 0 = 1, promise 2 0 = 2, promise 3 0 = 3, promise 4 0 = 4",
            "promise 0 1 = 40, promise 1 1 = 1, promise 4 1 = 4");
    }

    private static void needs() {
        String sentence = "NEEDS NS (letters a .. j of PROMISES told ahead, rising, none twice; else nothing)";
        String three = "man 1 9;will 0 1;will 0 1;will 0 1";
        for (String kind : KINDS) {
            EDGES.faults(sentence, "man 1 9;" + kind + " 0 1 ^a", "man 1 9;will 0 1;" + kind + " 0 1 a");
        }
        EDGES.faults(sentence,
            three + ";will 0 1 abc", three + ";will 0 1 ac", three + ";will 0 1 c", three + ";will 0 1 ^d",
            three + ";will 0 1 ^abcd", three + ";will 0 1 ^ba", three + ";will 0 1 ^acb", three + ";will 0 1 ^aa",
            three + ";will 0 1 ^abb", three + ";will 0 1 ^k", three + ";will 0 1 ^z", three + ";will 0 1 ^az",
            three + ";will 0 1 ^A", three + ";will 0 1 ^0", three + ";will 0 1 a ^b");
        EDGES.faultsBehind("man 1 9;" + "will 0 1;".repeat(8) + "will 0 1", sentence,
            "will 0 1 abcdefghi", "will 0 1 i", "will 0 1 ^j", "will 0 1 ^abcdefghij", "will 0 1;^will 0 1 j");
        EDGES.edge(5, "it NEEDS a set (bits) of PROMISES told ahead of it",
            "told man 1 9;" + "will 0 1;".repeat(8) + "will 0 1", "told ever 0 1 abcdefghi",
            "promise 9 3 = 511, promise 8 3 = 0");
        EDGES.edge(5, "it NEEDS a set (bits) of PROMISES told ahead of it",
            "told " + three + ";pay 0 1 ac;shun 0 1 d;will 0 1",
            "promise 0 3 = 0, promise 3 3 = 5, promise 4 3 = 8, promise 5 3 = 0");
    }

    private static void eleventh() {
        EDGES.faults("an eleventh cannot", TEN, TEN + "; ^will", TEN + ";^pay 9 99", TEN + ";man 1 1");
        for (String kind : KINDS) {
            EDGES.faults("an eleventh cannot", TEN + ";^" + kind + " 0 1");
            EDGES.faultsBehind(TEN, "an eleventh cannot", "^" + kind + " 0 1", "parish;man 1 1;" + kind + " 0 1");
        }
        EDGES.edge(5, "PROMISES are 0, 1 .., 10 at most",
            "count 1 = 0", "told man 1 9;" + "will 0 9;".repeat(8) + "will 0 9", "count 1 = 9", "told ever 0 2",
            "count 1 = 10, promise 9 0 = 4, promise 10 0 = UNKNOWN, person 0 3 = 10, holds 0 9 = 9, holds 0 10 = NONE",
            "text ever 0 1", "parish = NOT, count 1 = 10");
    }

    private static void strife() {
        String sentence = "strife: PROMISES A, B, unlike, told ahead, are at STRIFE";
        String two = "man 1 9;will 0 1;will 0 1";
        EDGES.faults(sentence,
            "strife ^0 1", "man 1 9;will 0 1;strife 0 ^0", "man 1 9;will 0 1;strife 0 ^1", "man 1 9;will 0 1;strife ^1 0",
            two + ";strife 0 1", two + ";strife 1 0", two + ";strife 00 01", two + ";strife 1 ^1", two + ";strife 1 ^01",
            two + ";strife 0 ^2", two + ";strife ^2 2", two + ";strife 0 ^2;will 0 1", two + ";strife 0 1;strife 0 1",
            two + ";strife ^a b");
        EDGES.faultsBehind(TEN, sentence, "strife 9 0", "strife 0 9", "strife 8 9", "strife ^10 9", "strife 9 ^10");
    }

    private static void numbers() {
        String two = "man 1 9;will 0 1;will 0 1;";
        EDGES.faults("numbers of 1 or 2 digits", "man 01 05", "man 9 09", "man 1 9;man 1 9 00", "man 1 9;ever 00 01");
        EDGES.faults("(a number out of its bounds, of more digits, also)",
            "man ^001 5", "man 1 ^005", "man 1 ^600", "man ^100 5", "man 1 9;man 1 9 ^000", "man 1 9;will ^000 1",
            "man 1 9;will 0 ^001", "man 1 9;will 0 ^100", two + "strife ^000 1", two + "strife 0 ^001",
            "man ^" + "1".repeat(150) + " 5", "man ^4294967297 5", "man 1 ^" + "0".repeat(150) + "5");
    }

    private static void tokens() {
        String sentence = "TOKEN (a row of small letters, a row of digits, any other letter)";
        EDGES.faults(sentence,
            "parish^`", "parish^{", "^parishz", "^parisha", "^zparish", "^`parish", "^{parish", "man 1^/ 5", "man 1^: 5",
            "man 1 5^:man 1 5", "man 1 5^<man 1 5", "man ^-1 5", "man ^+1 5", "man 1^.5 5", "man 1^,5", "^Parish",
            "^PARISH",
            "parish^A", "parish^Z", "parish^@", "parish^[", "^\u0000", "parish^\u0000", "^\u00ff", "parish^\u00ff",
            "parish^\u00e4", "man ^\u00b2 5", "^!!!", "man 1 5 ^a1", "man 1^a", "man1 5", "man1 5;will0 1;pay0 1a");
        EDGES.faults("A FAULT is at the first TOKEN", "man ^0 0", "man 1 ^0;man 0 0", "^men 0 0", "parish;^;man 0 0");
    }

    private static void words() {
        EDGES.faults("each is one of: parish. man S Y. man S Y H. will P W. will P W NS.",
            "^paris", "^parishh", "^p", "^ma 1 5", "^mann 1 5", "^men 1 5", "^mab 1 5", "^nan 1 5", "^a", "^5", "^5 5");
        for (String kind : KINDS) {
            String cut = kind.substring(0, kind.length() - 1);
            EDGES.faults("pay P W .. (likewise), short .., shun .., ever ...",
                "man 1 9;^" + cut + " 0 1", "man 1 9;^" + kind + "s 0 1", "man 1 9;^" + cut + "z 0 1",
                "man 1 9;^a" + kind.substring(1) + " 0 1");
        }
        EDGES.faults("strife A B.", "man 1 9;will 0 1;will 0 1;^strif 0 1", "man 1 9;will 0 1;will 0 1;^strifes 0 1",
            "man 1 9;will 0 1;will 0 1;^strifa 0 1");
        EDGES.faults("shun (NOT)", "man 1 9;shun 0 1", "man 1 9;^not 0 1");
    }

    private static void blanks() {
        EDGES.faults("blanks between",
            " parish", "parish ", "   man   1   5   ", "man 1 5 ; man 1 5", "man 1 5;   man 1 5   0  ", "   ^",
            "man 1 5^\tman 1 5", "parish^\t", "parish^\n", "parish^\u001f", "parish^!", "parish^\u00a0", "^pari sh",
            "man 1 5 ^5", "man 1 5 ^0 5");
    }

    /** The mark of a fault at the end stands behind the last letter. */
    private static void ends() {
        String sentence = "or at the end, if it comes too soon";
        String two = "man 1 9;will 0 1;will 0 1;";
        EDGES.faults(sentence, "^", " ^", "parish;^", "parish; ^", "man^", "man ^", "man 1^", "man 1 ^", "man 1 5;^",
            two + "strife^", two + "strife ^", two + "strife 0^", two + "strife 0 ^");
        EDGES.faults("that cannot stand there", "^;", "parish;^;", "man^;", "man 1^;", two + "strife^;", two + "strife 1^;");
        for (String kind : KINDS) {
            EDGES.faults(sentence, "man 1 9;" + kind + "^", "man 1 9;" + kind + " ^", "man 1 9;" + kind + " 0^",
                "man 1 9;" + kind + " 0 ^", "man 1 9;" + kind + " 0^;", "man 1 9;" + kind + " 0 1;^");
        }
    }

    private static void tooMuch() {
        String two = "man 1 9;will 0 1;will 0 1;";
        EDGES.faults("that cannot stand there",
            "parish ^parish", "parish ^1", "man 1 5 ^a", "man 1 5 ^man 1 5", "man 1 5;man 1 5 0 ^0",
            "man 1 5;man 1 5 0 ^a",
            "man 1 5;will 0 1 ^1", two + "will 0 1 a ^1", two + "will 0 1 a ^ab", two + "strife 0 1 ^1", two +
            "strife 0 1 ^a");
    }

    private static void clauses() {
        String sentence = "CLAUSES with ; between, 24 at most";
        String most = "parish;".repeat(23) + "parish";
        EDGES.faults(sentence, "parish;".repeat(22) + "parish", "parish;".repeat(22) + "parish;^", most, most + "  ",
            most + "^;parish", most + " ^; parish", most + "^;", most + " ^parish", "parish;".repeat(23) + "^", most + "^;x");
        EDGES.edge(5, "how many there were", "text parish", "parish = 1", "text " + most, "parish = 24", "text parish",
            "parish = 1");
    }

    private static void letters() {
        String sentence = "THE TEXT is a row of letters, 200 at most";
        String blanks = " ".repeat(194);
        EDGES.faults(sentence, blanks + "parish", blanks + "^parisx", " ".repeat(193) + "^parishe", " ".repeat(195) + "man ^0");
        EDGES.faults(sentence, " ".repeat(200) + "^", " ".repeat(199) + "^!", "^" + "a".repeat(200), "^" + "1".repeat(200));
        EDGES.edge(5, sentence,
            "text " + " ".repeat(192) + "man 9 60", "count 10 = 200, write 48 = FULL, fault = NONE, parish = 1",
            "count 10 = 0, person 0 1 = 60, write 48 = 1");
    }

    private static void order() {
        EDGES.faults("CLAUSES are done in their order.",
            "will ^0 1;man 1 9", "man 1 9;will 0 1", "man 1 9;parish;will ^0 1",
            "man 1 9;will 0 1;parish;man 1 9;will 0 1 ^a",
            "man 1 9;will 0 1;will 0 1;parish;strife ^0 1", "man 1 9;man 1 9;parish;man 1 9 ^0",
            FIVE + ";parish;" + FIVE, FIVE + ";parish;" + FIVE + ";^man 1 9");
        EDGES.edge(5, "CLAUSES are done in their order.",
            "text man 1 1;will 0 7;parish;man 2 2;man 3 3", "parish = 5, count 0 = 2, count 1 = 0, person 0 0 = 2");
        EDGES.edge(5, "CLAUSES are done in their order.",
            "text man 1 1;parish", "parish = 2, count 0 = 0, person 0 0 = UNKNOWN");
    }

    private static void parish() {
        EDGES.edge(5, "THE TEXT's CLAUSES are done, and it is empty then",
            "text man 1 1", "count 10 = 7, parish = 1, count 10 = 0, fault = 0, parish = NOT, count 0 = 1");
        EDGES.edge(5, "NOT: it has a FAULT.",
            "parish = NOT", "text man 1", "parish = NOT, count 10 = 5, count 0 = 0", "text  1",
            "parish = 1, count 0 = 1", "text man 1 1;man 2 2;man 0 1", "parish = NOT, count 0 = 1");
    }

    private static void allAsAtFirst() {
        EDGES.edge(5, "parish: all as at first",
            "told man 1 9;man 2 8 0;will 1 4;will 0 5 a;strife 0 1", "told parish",
            "count 0 = 0, count 1 = 0, person 0 0 = UNKNOWN, promise 0 0 = UNKNOWN, held NONE =, peace = 0, stuck = 0",
            "told man 3 7;will 0 6;ever 0 2",
            "person 0 0 = 3, person 0 2 = NONE, promise 0 1 = 6, promise 1 3 = 0, peace = 3, held 0 = 0 1");
        EDGES.edge(5, "parish: all as at first",
            "told man 1 9;will 0 4;will 0 4;strife 0 1", "peace = 1",
            "told parish;man 1 9;will 0 4;will 0 4", "peace = 3");
    }

    private static void earlierTexts() {
        EDGES.edge(5, "what earlier texts told stays as it was told",
            "told man 2 3;man 1 9 0;will 0 20;will 0 2;shun 0 9;pay 1 9 ab;strife 0 1",
            "shorten 0 = 10, ahead 1 = 1, year 1 = 1, give 0 1 = 0, give 3 NONE = 1, year 4 = 5, count 3 = 1",
            "told man 9 9 1",
            "count 0 = 3, person 0 0 = 2, person 0 1 = 3, person 1 1 = 9, person 1 2 = 0, person 2 2 = 1",
            "promise 0 1 = 20, promise 3 0 = 1, promise 3 3 = 3, held 0 = 0 1 2, held 1 = 3, held 2 =, held NONE =",
            "peace = 13");
        EDGES.edge(5, "what earlier texts told stays as it was told",
            "told man 1 9;will 0 9;will 0 9;will 0 9;strife 0 1", "told strife 1 2", "peace = 5",
            "told strife 2 0", "peace = 1", "text strife 2 2", "parish = NOT, peace = 1");
    }

    private static void behindAText() {
        EDGES.edge(5, "nothing is DONE or KEPT, it is YEAR 0",
            "told man 5 2;will 0 5;will 0 40;shun 0 1", "year 2 = 2, count 4 = 5, count 6 = 10, count 3 = 1, count 5 = 1",
            "told man 1 1", "count 4 = 0, count 6 = 0, count 3 = 0, count 5 = 0, count 2 = 0",
            "promise 1 2 = 0, promise 0 4 = 0, promise 2 4 = 0, promise 0 5 = 1, held 0 = 0 1 2");
        EDGES.edge(5, "nothing is SEEN",
            "seen 4 2 8 = 1, kinds = 1", "told man 1 1", "count 7 = 0, kinds = 31, attempt = 1, forget = 0",
            "seen 1 1 1 = 1");
        EDGES.edge(5, "nothing is kept by keep() or can be undone",
            "told man 1 9", "year 2 = 2, keep 0 = 2, keep 1 = 2, count 9 = 1", "told man 1 1",
            "count 9 = 0, undo = NOT, back 0 = NOT, back 1 = NOT, count 2 = 0");
        EDGES.edge(5, "REGISTERS are all missing.",
            "register 0 1 = 1, register 1 0 = 0, register 2 5 = 5, page 0 0 1 = 1, enter 0 0 0 0 7 = 1", "told man 1 1",
            "count 8 = 0, pages 0 0 = NULL, pages 1 0 = NULL, pages 2 0 = NULL, read 0 0 0 0 = NULL",
            "register 0 1 = 1, read 0 0 0 0 = VOID");
        EDGES.edge(5, "Refused, and nothing changes",
            "told man 1 9;will 0 9", "year 1 = 1, keep 1 = 1, seen 1 1 1 = 1, register 2 2 = 2", "text parish;man",
            "parish = NOT, count 2 = 1, count 6 = 1, count 7 = 1, count 8 = 1, count 9 = 1, count 10 = 10, back 1 = 1");
    }
}
