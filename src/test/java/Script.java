import java.util.ArrayList;
import java.util.Arrays;
import java.util.List;

/**
 * A run of calls, told by lines:
 *
 * <pre>
 * text man 1 5              these letters are written
 * told man 1 5;will 0 4     they are written, and done by parish()
 * year 1 = 1, undo = 0      calls, each with the answer that is due (or a constant's name)
 * 8 * year 1                a call so many times, refused by none
 * held NONE = 2 0 1         what THE CAT (or one of PEOPLE) holds, in order
 * </pre>
 */
final class Script {
    /** A call; what is due is null where anything will do that is no refusal. */
    record Step(String name, int[] args, Integer due) {
        boolean isAnsweredBy(int answer) {
            return due == null ? answer >= PromiseNames.NONE : answer == due;
        }

        boolean isRefused() {
            return due != null && due < PromiseNames.NONE;
        }

        String shown() {
            String all = Arrays.toString(args);
            return name + "(" + all.substring(1, all.length() - 1) + ")";
        }
    }

    private final List<Step> steps = new ArrayList<>();

    Script(String... lines) {
        for (String line : lines) {
            addLine(line);
        }
    }

    List<Step> steps() {
        return steps;
    }

    private void addLine(String line) {
        if (line.startsWith("text ")) {
            addText(line.substring(5));
        } else if (line.startsWith("told ")) {
            addText(line.substring(5));
            steps.add(new Step("parish", new int[0], null));
        } else {
            for (String call : line.split(", ")) {
                addCalls(call);
            }
        }
    }

    private void addText(String text) {
        for (int i = 0; i < text.length(); i++) {
            steps.add(new Step("write", new int[] {text.charAt(i)}, null));
        }
    }

    private void addCalls(String told) {
        String[] sides = told.split(" =", 2);
        String due = sides.length > 1 ? sides[1].trim() : null;
        String[] words = sides[0].split(" ");
        if (words[0].equals("held")) {
            addHeld(number(words[1]), due);
            return;
        }
        boolean isRepeated = words.length > 1 && words[1].equals("*");
        int times = isRepeated ? number(words[0]) : 1;
        Step step = step(Arrays.copyOfRange(words, isRepeated ? 2 : 0, words.length), due);
        for (int i = 0; i < times; i++) {
            steps.add(step);
        }
    }

    private static Step step(String[] words, String due) {
        int[] args = new int[words.length - 1];
        for (int i = 0; i < args.length; i++) {
            args[i] = number(words[i + 1]);
        }
        if (!Target.has(words[0], args.length)) {
            throw new IllegalArgumentException("no such call: " + String.join(" ", words));
        }
        return new Step(words[0], args, due == null ? null : number(due));
    }

    private void addHeld(int who, String due) {
        int k = 0;
        for (String promise : due.isEmpty() ? new String[0] : due.split(" ")) {
            steps.add(new Step("holds", new int[] {who, k++}, number(promise)));
        }
        steps.add(new Step("holds", new int[] {who, k}, PromiseNames.NONE));
    }

    private static int number(String word) {
        switch (word) {
            case "LEAST": return Integer.MIN_VALUE;
            case "GREATEST": return Integer.MAX_VALUE;
            default: return Character.isUpperCase(word.charAt(0)) ? constant(word) : Integer.parseInt(word);
        }
    }

    private static int constant(String name) {
        try {
            return PromiseNames.class.getField(name).getInt(null);
        } catch (ReflectiveOperationException e) {
            throw new IllegalArgumentException("no such constant: " + name, e);
        }
    }
}
