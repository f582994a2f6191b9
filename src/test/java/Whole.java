import java.util.ArrayList;
import java.util.List;

/** All that can be told of an object, in parts: some of them can only be told by undoing what there is. */
final class Whole {
    static final int PARTS = 7;

    private final Target x;
    private final List<Integer> all = new ArrayList<>();

    private Whole(Target x) {
        this.x = x;
    }

    static List<Integer> told(Target x, int part) {
        Whole whole = new Whole(x);
        switch (part) {
            case 0: whole.tellPeopleAndPromises(); break;
            case 1: whole.tellLines(); break;
            case 2: whole.tellSamePages(); break;
            case 3: whole.tellWhatCanBeUndone(); break;
            case 4: whole.tellKept(0); break;
            case 5: whole.tellKept(1); break;
            default: whole.tellText(); break;
        }
        return whole.all;
    }

    private int ask(String name, int... args) {
        int answer = x.call(name, args);
        all.add(answer);
        return answer;
    }

    private void tellPeopleAndPromises() {
        for (int what = 0; what <= 10; what++) {
            ask("count", what);
        }
        tellHeld(PromiseNames.NONE);
        for (int person = 0; ask("person", person, 0) > 0; person++) {
            ask("person", person, 1);
            ask("person", person, 2);
            tellHeld(person);
        }
        for (int promise = 0; ask("promise", promise, 0) >= 0; promise++) {
            for (int what = 1; what <= 4; what++) {
                ask("promise", promise, what);
            }
        }
        ask("peace");
        ask("kinds");
    }

    private void tellHeld(int who) {
        for (int k = 0; ask("holds", who, k) >= 0; k++) {
            continue;
        }
    }

    private void tellLines() {
        for (int register = 0; register < 3; register++) {
            int pages = ask("pages", register, 0);
            for (int p = 0; p < pages; p++) {
                for (int i = 0; ask("read", register, p, i, 0) != PromiseNames.LINE && i < 7; i++) {
                    ask("read", register, p, i, 1);
                }
            }
        }
    }

    private void tellSamePages() {
        for (int place = 0; place < 15; place++) {
            for (int other = 0; other < place; other++) {
                ask("same", place / 5, place % 5, other / 5, other % 5);
            }
        }
    }

    private void tellWhatCanBeUndone() {
        for (int i = 0; i < 9; i++) {
            ask("undo");
            for (int what = 2; what <= 9; what++) {
                ask("count", what);
            }
            for (int person = PromiseNames.NONE; person < 5; person++) {
                tellHeld(person);
            }
            for (int promise = 0; promise < 10; promise++) {
                ask("promise", promise, 1);
            }
        }
    }

    private void tellKept(int k) {
        ask("back", k);
        tellPeopleAndPromises();
    }

    private void tellText() {
        ask("fault");
        ask("parish");
        tellPeopleAndPromises();
    }
}
