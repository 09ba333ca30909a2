import java.util.NoSuchElementException;
import java.util.Objects;

/** The tests of one program: each test is counted, and each of its answers that is wrong is told. */
final class Checks {
    interface Body {
        void run();
    }

    static final Class<IndexOutOfBoundsException> INDEX = IndexOutOfBoundsException.class;
    static final Class<IllegalArgumentException> ARGUMENT = IllegalArgumentException.class;
    static final Class<IllegalStateException> STATE = IllegalStateException.class;
    static final Class<NoSuchElementException> NO_SUCH = NoSuchElementException.class;
    static final Class<ArithmeticException> ARITHMETIC = ArithmeticException.class;
    static final Class<UnsupportedOperationException> UNSUPPORTED =
            UnsupportedOperationException.class;

    /** The last two would be in range, and be member 0, for a class that cut their upper bits off. */
    static final int[] FAR = {Integer.MIN_VALUE, Integer.MAX_VALUE, 256 + 1, 65536 + 1};
    static final int[] NOBODY = {Integer.MIN_VALUE, Integer.MAX_VALUE, 256, 65536};

    private int passed = 0;
    private int failed = 0;
    private int wrong = 0;

    void test(String name, Body body) {
        wrong = 0;
        try {
            body.run();
        } catch (RuntimeException | StackOverflowError e) {
            tell("threw " + e);
        }
        if (wrong == 0) {
            passed++;
        } else {
            failed++;
            System.out.println("  FAILED: " + name);
        }
    }

    void same(String what, Object due, Object got) {
        if (!Objects.equals(due, got)) {
            tell(what + " answered " + got + ", due is " + due);
        }
    }

    /** The class must be the very one, for what the machine itself throws is often a class below. */
    void throwsExactly(Class<? extends RuntimeException> due, String what, Body body) {
        try {
            body.run();
            tell(what + " threw nothing, due is " + due.getName());
        } catch (RuntimeException e) {
            same(what + " threw; its class", due, e.getClass());
        }
    }

    /** The call must throw and leave all as it was. */
    void refuses(Class<? extends RuntimeException> due, CricketCooperative c, String what, Body body) {
        String before = View.of(c);
        throwsExactly(due, what, body);
        same("the state after " + what, before, View.of(c));
    }

    interface CallWith {
        void on(int number);
    }

    /** Each of the numbers must be refused, and leave all as it was. */
    void refusesEach(Class<? extends RuntimeException> due, CricketCooperative c, String what,
            int[] numbers, CallWith call) {
        for (int number : numbers) {
            refuses(due, c, what + " " + number, () -> call.on(number));
        }
    }

    void end() {
        System.out.println(passed + " passed, " + failed + " failed");
        System.exit(failed == 0 ? 0 : 1);
    }

    private void tell(String text) {
        wrong++;
        System.out.println("  " + text);
    }
}
