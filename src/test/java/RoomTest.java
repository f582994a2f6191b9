import java.lang.management.ManagementFactory;
import java.util.function.IntSupplier;

/** 512 of the dearest calls make next to nothing: all calls of a run share one room. */
public final class RoomTest {
    private static final Check CHECK = new Check();
    private static final int CALLS = 512;
    private static final long MOST_BYTES = 200_000;

    public static void main(String[] args) {
        PromiseNames x = Check.told("man 1 60;man 2 60 0;man 3 60;man 4 60;man 5 60;will 0 40;will 0 40;will 0 40;will 0 40;will 0 40;ever 1 1;will 1 40;shun 1 40;will 1 40;strife 0 1;strife 2 3");
        x.give(6, -1);
        x.give(7, -1);
        x.give(8, -1);
        measure("order", () -> x.order(0, 30, 0));
        measure("godfathers", () -> x.godfathers(30, 0));
        measure("peace", x::peace);
        measure("just", () -> x.just(1));
        measure("idle", () -> x.idle(9, 3, 4, 0));
        measure("attempt", x::attempt);
        measure("year", () -> x.year(1) < 0 ? 0 : x.undo());
        measure("keep", () -> x.keep(0) + x.back(0));
        measure("register", () -> x.register(0, 5));
        measure("page", () -> x.page(0, 4, 6));
        measure("write", () -> x.write('a'));
        measure("fault", x::fault);
        measure("parish", () -> {
            x.erase();
            Check.write(x, "parish;man 1 1;will 0 1");
            return x.parish();
        });
        measure("a new object", () -> new PromiseNames().count(0), 30 * MOST_BYTES);
        CHECK.end();
    }

    private static void measure(String name, IntSupplier call) {
        measure(name, call, MOST_BYTES);
    }

    private static void measure(String name, IntSupplier call, long most) {
        com.sun.management.ThreadMXBean threads = (com.sun.management.ThreadMXBean) ManagementFactory.getThreadMXBean();
        call.getAsInt();
        long before = threads.getThreadAllocatedBytes(Thread.currentThread().getId());
        for (int i = 0; i < CALLS; i++) {
            call.getAsInt();
        }
        long made = threads.getThreadAllocatedBytes(Thread.currentThread().getId()) - before;
        CHECK.holds(name + " made " + made + " bytes by " + CALLS + " calls", made <= most);
    }
}
