import com.sun.management.ThreadMXBean;
import java.lang.management.ManagementFactory;

/** All calls of a run live in one room: a book's 512 dearest calls make next to nothing. */
final class RoomTests {
    private static final int CALLS = 512;
    private static final long MOST_BYTES = 200_000;

    private static final ThreadMXBean THREADS =
            (ThreadMXBean) ManagementFactory.getThreadMXBean();

    private RoomTests() {
    }

    /** One of the calls of a run. */
    private interface Step {
        void take(UncertainBook book, int call);
    }

    public static void main(String[] args) {
        long text = Check.signs("a*b^2+1");
        within("models", (book, call) -> {
            book.type(text);
            book.model(call / 2 % 8);
        });
        within("draws", (book, call) -> book.draw(0, 100));
        within("budgets", (book, call) -> book.budget(0, call % 5));
        within("ranks", (book, call) -> book.ranked(0, call % 7));
        within("contributions", (book, call) -> book.contribution(0, call % 6, true));
        within("sensitivities", (book, call) -> book.sensitivityAnew(0, call % 6));
        within("units", (book, call) -> book.unit(call % 6, call % 4, 0));
        within("readings", (book, call) -> {
            if (call % 9 == 8) {
                book.shape(0, 0, 1, 9);
            } else {
                book.read(0, call);
            }
        });
        Check.end();
    }

    private static void within(String what, Step step) {
        run(step);
        long before = THREADS.getCurrentThreadAllocatedBytes();
        run(step);
        long made = THREADS.getCurrentThreadAllocatedBytes() - before;
        Check.due(what + " within the room, by " + made + " bytes", 1, made < MOST_BYTES ? 1 : 0);
    }

    private static void run(Step step) {
        UncertainBook book = Check.book("(a+b)*(c+d)*(e+f)^4*-(a-b)^3*(c*d*e)^2*f^4");
        for (int input = 0; input < 6; input++) {
            book.shape(input, 7, 1 + input % 3, 9);
        }
        for (int call = 0; call < CALLS; call++) {
            step.take(book, call);
        }
    }
}
