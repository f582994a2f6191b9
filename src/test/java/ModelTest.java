import java.lang.reflect.Method;
import java.util.ArrayList;
import java.util.List;
import java.util.Random;

/** Long runs of calls, right and wrong, on the class and on the model: each answer must be the same. */
public final class ModelTest {
    private static final Check CHECK = new Check();
    private static final int RUNS = 2500, CALLS = 512, MOST_TOLD = 20;
    private static final String[] WORDS = {"man", "will", "pay", "short", "shun", "ever", "strife", "parish"};

    private final Random random;
    private final PromiseNames x = new PromiseNames();
    private final Model model = new Model();
    private final List<String> told = new ArrayList<>();
    private final StringBuilder toWrite = new StringBuilder();
    private int calls;

    private ModelTest(long seed) {
        random = new Random(seed);
    }

    public static void main(String[] args) throws ReflectiveOperationException {
        int wrongRuns = 0;
        for (int run = 0; run < RUNS && wrongRuns < 3; run++) {
            ModelTest test = new ModelTest(run);
            if (!test.passes()) {
                wrongRuns++;
                int from = Math.max(0, test.told.size() - MOST_TOLD);
                System.out.println("run " + run + ", its last calls: " + test.told.subList(from, test.told.size()));
            }
        }
        CHECK.due("runs that differ", 0, wrongRuns);
        CHECK.end();
    }

    private boolean passes() throws ReflectiveOperationException {
        List<Method> methods = new ArrayList<>();
        for (Method m : PromiseNames.class.getMethods()) {
            if (m.getDeclaringClass() == PromiseNames.class) {
                methods.add(m);
            }
        }
        methods.sort((a, b) -> a.getName().compareTo(b.getName()));
        boolean fine = tellText(true);
        while (fine && calls < CALLS) {
            int die = random.nextInt(100);
            if (die == 0) {
                fine = tellText(random.nextInt(3) > 0);
            } else if (die < 30) {
                fine = call(named(methods, "year give shorten ahead undo keep back".split(" ")));
            } else if (die < 50) {
                fine = call(named(methods, "register page bind same enter read pages".split(" ")));
            } else {
                fine = call(methods.get(random.nextInt(methods.size())));
            }
        }
        return fine;
    }

    private Method named(List<Method> methods, String[] names) {
        String name = names[random.nextInt(names.length)];
        for (Method m : methods) {
            if (m.getName().equals(name)) {
                return m;
            }
        }
        throw new IllegalStateException(name);
    }

    private boolean call(Method m) throws ReflectiveOperationException {
        Object[] args = new Object[m.getParameterCount()];
        for (int i = 0; i < args.length; i++) {
            args[i] = argument(m.getName(), i);
        }
        if (m.getName().equals("erase") && random.nextInt(4) > 0) {
            return true;
        }
        return compare(m.getName(), args);
    }

    private int argument(String name, int i) {
        int die = random.nextInt(40);
        if (die == 0) {
            return new int[] {Integer.MIN_VALUE, Integer.MAX_VALUE, -2, 10000, -10000, 256, 1 << 30}[random.nextInt(7)];
        }
        if (die < 5) {
            return random.nextInt(16) - 2;
        }
        switch (name) {
            case "write": return "abcdefghij 0123456789;manwill".charAt(random.nextInt(29));
            case "person": return random.nextInt(4);
            case "promise": case "as": return i == 0 ? random.nextInt(10) : random.nextInt(6);
            case "give": return i == 0 ? random.nextInt(10) : random.nextInt(6) - 1;
            case "year": return random.nextInt(10) > 0 ? 1 + random.nextInt(3) : 1 + random.nextInt(12);
            case "keep": case "back": return random.nextInt(2);
            case "behind": return i == 0 ? random.nextInt(10) : i == 1 ? random.nextInt(61) : random.nextInt(2);
            case "order": return i == 0 ? random.nextInt(5) : i == 1 ? 1 + random.nextInt(30) : random.nextInt(6) - 1;
            case "godfathers": return i == 0 ? random.nextInt(31) : random.nextInt(4) - 1;
            case "idle": return i == 3 ? random.nextInt(2) : random.nextInt(10);
            case "seen": return i == 0 ? 1 + random.nextInt(9) : i == 1 ? 1 + random.nextInt(3) : random.nextInt(12);
            case "holds": return random.nextInt(6) - 1;
            case "register": return i == 0 ? random.nextInt(3) : random.nextInt(6);
            case "page": return i == 0 ? random.nextInt(3) : i == 1 ? random.nextInt(5) : random.nextInt(7) - 1;
            case "bind": case "same": return i % 2 == 0 ? random.nextInt(3) : random.nextInt(5);
            case "enter": return i == 0 || i == 3 ? random.nextInt(3) : i == 4 ? random.nextInt(10) : random.nextInt(5);
            case "read": return i == 0 ? random.nextInt(3) : i == 3 ? random.nextInt(2) : random.nextInt(5);
            case "pages": return i == 0 ? random.nextInt(3) : random.nextInt(4);
            case "drop": return random.nextInt(3);
            case "count": return random.nextInt(11);
            default: return random.nextInt(10);
        }
    }

    private boolean compare(String name, Object... args) throws ReflectiveOperationException {
        Class<?>[] types = new Class<?>[args.length];
        for (int i = 0; i < args.length; i++) {
            types[i] = int.class;
        }
        Method ours = PromiseNames.class.getMethod(name, types);
        Class<?>[] modelTypes = types.clone();
        if (name.equals("ahead")) {
            modelTypes[0] = Integer.class;
        }
        Method theirs = Model.class.getDeclaredMethod(name, modelTypes);
        calls++;
        int got = (Integer) ours.invoke(x, args);
        int want = (Integer) theirs.invoke(model, args);
        String call = name + java.util.Arrays.toString(args);
        told.add(call + "=" + got);
        CHECK.due(call, want, got);
        return got == want;
    }

    /** A text that mostly has no fault, or one with something wrong in it. */
    private boolean tellText(boolean isGood) throws ReflectiveOperationException {
        toWrite.setLength(0);
        int people = model.count(0);
        int promises = model.count(1);
        int many = 1 + random.nextInt(random.nextInt(3) == 0 ? 4 : 14);
        if (random.nextInt(3) == 0) {
            toWrite.append("parish");
            people = 0;
            promises = 0;
        }
        for (int i = 0; i < many && toWrite.length() < 180; i++) {
            String word = WORDS[people < 2 ? 0 : promises < 2 ? 1 + random.nextInt(5) : random.nextInt(random.nextInt(12) == 0 ? 8 : 7)];
            if (isGood && (word.equals("man") && people >= 5 || word.matches("will|pay|short|shun|ever") && promises >= 10)) {
                continue;
            }
            toWrite.append(toWrite.length() == 0 ? "" : random.nextInt(9) == 0 ? " ; " : ";").append(word);
            if (word.equals("man")) {
                toWrite.append(' ').append(1 + random.nextInt(9)).append(' ').append(1 + random.nextInt(random.nextBoolean() ? 12 : 60));
                if (people > 0 && random.nextBoolean()) {
                    toWrite.append(' ').append(random.nextInt(people));
                }
                people++;
            } else if (word.equals("strife")) {
                int a = random.nextInt(promises);
                toWrite.append(' ').append(a).append(' ').append((a + 1 + random.nextInt(promises - 1)) % promises);
            } else if (word.equals("parish")) {
                people = 0;
                promises = 0;
            } else {
                addPromise(people, promises);
                promises++;
            }
        }
        if (!isGood) {
            spoil();
        }
        boolean fine = compare("erase");
        for (int i = 0; fine && i < toWrite.length(); i++) {
            fine = compare("write", (int) toWrite.charAt(i));
        }
        return fine && compare("fault") && compare("parish");
    }

    private void addPromise(int people, int promises) {
        toWrite.append(' ').append(random.nextInt(people)).append(' ').append(1 + random.nextInt(random.nextBoolean() ? 9 : 40));
        if (promises > 0 && random.nextInt(3) == 0) {
            int bits = 1 + random.nextInt((1 << promises) - 1) & random.nextInt(1 << promises);
            toWrite.append(bits == 0 ? "" : " ");
            for (int p = 0; p < promises; p++) {
                toWrite.append((bits & 1 << p) != 0 ? "" + (char) ('a' + p) : "");
            }
        }
    }

    private void spoil() {
        if (toWrite.length() == 0) {
            return;
        }
        int at = random.nextInt(toWrite.length());
        char sign = "abz0159 ;;A!".charAt(random.nextInt(12));
        switch (random.nextInt(3)) {
            case 0: toWrite.setCharAt(at, sign); break;
            case 1: toWrite.insert(at, sign); break;
            default: toWrite.deleteCharAt(at);
        }
    }
}
