import java.io.IOException;
import java.nio.file.Files;
import java.nio.file.Path;
import java.util.Set;
import java.util.TreeSet;

/**
 * Boundary cases: each names a promise and the document's sentence, and tells a run of calls on a new object. The run
 * is made on the class and on the model. Then each call in it that must change nothing, a refused one or one that only
 * tells, is left out once: nothing that can be told of the object may differ by it.
 */
final class Edges {
    private static final Set<String> ONLY_TELLS = Set.of("fault", "person", "holds", "promise", "as", "behind", "keeps",
        "just", "stuck", "order", "godfathers", "peace", "idle", "kinds", "attempt", "same", "read", "pages", "count");
    private static final String DOCUMENT = document();

    private final Check check = new Check();
    private final Set<String> seen = new TreeSet<>();

    void edge(int promise, String sentence, String... lines) {
        Script script = new Script(lines);
        String name = "promise " + promise + ", '" + sentence + "'";
        check.holds(name + " is a sentence of the document", DOCUMENT == null || isSentence(promise, inOneLine(sentence)));
        check.holds(name + " takes " + Target.MOST_CALLS + " calls at most", script.steps().size() <= Target.MOST_CALLS);
        seen.add("promise " + promise);
        run(name, script, Target.ofClass());
        run("the model, " + name, script, Target.ofModel());
        for (int i = 0; i < script.steps().size(); i++) {
            Script.Step step = script.steps().get(i);
            if (step.isRefused() || ONLY_TELLS.contains(step.name())) {
                changesNothing(name, script, i);
            }
        }
    }

    /** A fault's place is marked by a ^ ahead of its token; a text without one has none. */
    void faults(String sentence, String... marked) {
        faultsBehind("", sentence, marked);
    }

    void faultsBehind(String told, String sentence, String... marked) {
        for (String text : marked) {
            int fault = text.indexOf('^');
            String plain = text.replace("^", "");
            int clauses = plain.split(";", -1).length;
            edge(4, sentence,
                told.isEmpty() ? "text " : "told " + told,
                "text " + plain,
                "fault = " + fault,
                "parish = " + (fault < 0 ? clauses : PromiseNames.NOT),
                "count 10 = " + (fault < 0 ? 0 : plain.length()));
        }
    }

    private void run(String name, Script script, Target x) {
        for (Script.Step step : script.steps()) {
            int answer = x.call(step.name(), step.args());
            check.holds(name + ": " + step.shown() + " answered " + answer + ", due is " + step.due(),
                step.isAnsweredBy(answer));
            note(step, answer);
        }
    }

    private void note(Script.Step step, int answer) {
        seen.add(step.name() + " answers " + answer);
        for (int i = 0; i < step.args().length; i++) {
            if (step.args()[i] == Integer.MIN_VALUE || step.args()[i] == Integer.MAX_VALUE) {
                seen.add(step.name() + " takes " + step.args()[i] + " at " + i);
            }
        }
    }

    private void changesNothing(String name, Script script, int place) {
        int callsLeft = Target.MOST_CALLS - place - 1;
        for (int part = 0; part < Whole.PARTS; part++) {
            Target without = behind(script, place);
            Target with = behind(script, place + 1);
            without.allowOnly(callsLeft);
            with.allowOnly(callsLeft);
            check.holds(name + ": " + script.steps().get(place).shown() + ", call " + place + ", changes nothing",
                Whole.told(without, part).equals(Whole.told(with, part)));
        }
    }

    private static Target behind(Script script, int calls) {
        Target x = Target.ofClass();
        for (int i = 0; i < calls; i++) {
            x.call(script.steps().get(i).name(), script.steps().get(i).args());
        }
        return x;
    }

    /**
     * Looks that each of these promises had an edge, that each of the calls had every answer that stands behind it
     * here, and that each of its numbers was once the least and once the greatest int.
     */
    void end(int[] promises, String... calls) {
        for (int promise : promises) {
            check.holds("promise " + promise + " has an edge", seen.contains("promise " + promise));
        }
        for (String call : calls) {
            String[] words = call.split(" ");
            for (int i = 1; i < words.length; i++) {
                int answer = new Script("count 0 = " + words[i]).steps().get(0).due();
                check.holds(words[0] + " was answered " + words[i], seen.contains(words[0] + " answers " + answer));
            }
            for (int i = 0; i < Target.howManyArguments(words[0]); i++) {
                for (int number : new int[] {Integer.MIN_VALUE, Integer.MAX_VALUE}) {
                    String want = words[0] + " takes " + number + " at " + i;
                    check.holds(want, seen.contains(want));
                }
            }
        }
        check.end();
    }

    /** The tests run in the project's root, where .ci/run goes first. */
    private static String document() {
        try {
            return inOneLine(Files.readString(Path.of("../shared/DOC.md")));
        } catch (IOException e) {
            System.out.println("the document is not here: sentences are not looked up in it");
            return null;
        }
    }

    /** A sentence stands in the promise's own section, or ahead of them all, in the terms. */
    private static boolean isSentence(int promise, String sentence) {
        int first = DOCUMENT.indexOf("## Promise 1:");
        int own = DOCUMENT.indexOf("## Promise " + promise + ":");
        int next = own < 0 ? -1 : DOCUMENT.indexOf("## ", own + 1);
        return first >= 0 && DOCUMENT.substring(0, first).contains(sentence)
            || next >= 0 && DOCUMENT.substring(own, next).contains(sentence);
    }

    private static String inOneLine(String text) {
        return text.replaceAll("\\s+", " ");
    }
}
