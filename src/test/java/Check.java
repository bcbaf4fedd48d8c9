import java.util.function.Consumer;
import java.util.function.ObjIntConsumer;
import java.util.function.Supplier;
import java.util.function.ToIntFunction;

/** What the tests share: comparing answers, handing texts over, reading texts back. */
final class Check {
    static final Class<IndexOutOfBoundsException> INDEX = IndexOutOfBoundsException.class;
    static final Class<IllegalArgumentException> ARGUMENT = IllegalArgumentException.class;
    static final Class<IllegalStateException> STATE = IllegalStateException.class;
    private static final int INPUT = 900;
    private static final int APPENDED = 20;
    private static int wrong = 0;
    private static int asked = 0;

    private Check() {
    }

    static void same(String what, long got, long want) {
        asked++;
        if (got != want) {
            wrong++;
            System.out.println(what + ": answered " + got + ", due is " + want);
        }
    }

    static void same(String what, String got, String want) {
        asked++;
        if (!got.equals(want)) {
            wrong++;
            System.out.println(what + ": answered '" + got + "', due is '" + want + "'");
        }
    }

    /** The exception must be of the very class, not of one below it. */
    static void throwsIt(String what, Class<? extends RuntimeException> due, Runnable call) {
        asked++;
        RuntimeException thrown = null;
        try {
            call.run();
        } catch (RuntimeException e) {
            thrown = e;
        }
        if (thrown == null || thrown.getClass() != due) {
            wrong++;
            System.out.println(what + ": threw " + thrown + ", due is " + due.getSimpleName());
        }
    }

    static void index(String what, Runnable call) {
        throwsIt(what, IndexOutOfBoundsException.class, call);
    }

    static void argument(String what, Runnable call) {
        throwsIt(what, IllegalArgumentException.class, call);
    }

    static void state(String what, Runnable call) {
        throwsIt(what, IllegalStateException.class, call);
    }

    /** Puts a text into the input buffer, in place of what it has. */
    static void give(RingFreeOrder x, String text) {
        Example.give(x, text);
    }

    static RingFreeOrder of(String description) {
        RingFreeOrder x = new RingFreeOrder();
        give(x, description);
        x.readText();
        return x;
    }

    static int run(RingFreeOrder x, String orders) {
        give(x, orders);
        return x.runOrders();
    }

    /** The error of a text as "code@position", "0@-1" if it has none. */
    static String errorOfText(RingFreeOrder x, String text) {
        give(x, text);
        boolean thrown = false;
        try {
            x.readText();
        } catch (IllegalArgumentException e) {
            thrown = true;
        }
        return error(x, thrown);
    }

    static String errorOfOrders(RingFreeOrder x, String text) {
        give(x, text);
        boolean thrown = false;
        try {
            x.runOrders();
        } catch (IllegalArgumentException e) {
            thrown = true;
        }
        return error(x, thrown);
    }

    private static String error(RingFreeOrder x, boolean thrown) {
        String told = x.errorCode() + "@" + x.errorPosition();
        return thrown == (x.errorCode() != 0) ? told : told + " but thrown is " + thrown;
    }

    static String output(RingFreeOrder x) {
        return Example.textOf(x);
    }

    static String order(RingFreeOrder x) {
        int length = x.writeOrder();
        String text = output(x);
        return length == text.length() ? text : text + " with length " + length;
    }

    static String arrows(RingFreeOrder x, int task) {
        int length = x.writeArrows(task);
        String text = output(x);
        return length == text.length() ? text : text + " with length " + length;
    }

    static String accounts(RingFreeOrder x) {
        StringBuilder text = new StringBuilder();
        for (int k = 0; k < 9; k++) {
            text.append(k == 0 ? "" : " ").append(x.account(k));
        }
        return text.toString();
    }

    /** All of an object that save() saves, as one text (the output text is written anew). */
    static String snapshot(RingFreeOrder x) {
        StringBuilder text = new StringBuilder(order(x));
        text.append(" mode ").append(x.size(3)).append(" join ").append(x.size(4)).append(" hours");
        for (int t = 0; t < x.size(0); t++) {
            text.append(' ').append(x.task(t, 0));
        }
        text.append(" arrows");
        for (int i = 0; i < x.size(1); i++) {
            text.append(' ').append(x.arrow(i, 0)).append('>').append(x.arrow(i, 1));
        }
        return text.append(" accounts ").append(accounts(x)).toString();
    }

    /** How many bytes the input buffer has; it stays as it is. */
    static int bufferLength(RingFreeOrder x) {
        try {
            return x.truncate(x.append(0, 0, 0, 0, 0) - APPENDED);
        } catch (IllegalStateException e) {
            return fullBufferLength(x);
        }
    }

    private static int fullBufferLength(RingFreeOrder x) {
        for (int length = INPUT; length > INPUT - APPENDED; length--) {
            try {
                return x.truncate(length);
            } catch (IllegalArgumentException e) {
                // it is shorter than that
            }
        }
        return -1;
    }

    static String latestError(RingFreeOrder x) {
        return x.errorCode() + "@" + x.errorPosition();
    }

    /**
     * All that an object can ever tell but for the latest error: output text, input buffer, state, what can be
     * taken back, what was saved. The object is used up by it: no test goes beyond its 512th call.
     */
    static String rest(RingFreeOrder x) {
        StringBuilder text = new StringBuilder("output ").append(output(x));
        text.append(" changes ").append(x.size(8)).append(" now ").append(snapshot(x));
        text.append(" buffer ").append(bufferLength(x));
        while (x.undo() != RingFreeOrder.NONE) {
            text.append(" before ").append(snapshot(x));
        }
        try {
            x.restore();
            text.append(" saved ").append(snapshot(x));
        } catch (IllegalStateException e) {
            text.append(" nothing saved");
        }
        // what the buffer holds shows in what comes of it
        text.append(" make ").append(x.make(1)).append(' ').append(order(x));
        try {
            text.append(" orders ").append(x.runOrders()).append(' ').append(order(x));
        } catch (IllegalArgumentException e) {
            text.append(" orders ").append(latestError(x));
        }
        return text.toString();
    }

    /** A call that must not change anything: two objects made alike, one with the call, tell the same to the end. */
    static void nothing(String what, Supplier<RingFreeOrder> made, Consumer<RingFreeOrder> call) {
        RingFreeOrder with = made.get();
        RingFreeOrder without = made.get();
        call.accept(with);
        same(what + " changes no error", latestError(with), latestError(without));
        same(what + " changes nothing", rest(with), rest(without));
    }

    /** A call that throws the exception and changes nothing. */
    static void refused(String what, Supplier<RingFreeOrder> made, Class<? extends RuntimeException> due,
            Consumer<RingFreeOrder> call) {
        nothing(what, made, x -> throwsIt(what, due, () -> call.accept(x)));
    }

    /** A change that answers 0 less the reason and changes nothing. */
    static void refused(String what, Supplier<RingFreeOrder> made, int reason, ToIntFunction<RingFreeOrder> call) {
        nothing(what, made, x -> same(what, call.applyAsInt(x), -reason));
    }

    /** A call of one number that throws nothing from least to most, and the exception on each side of it. */
    static void range(String what, Supplier<RingFreeOrder> made, int least, int most,
            Class<? extends RuntimeException> due, ObjIntConsumer<RingFreeOrder> call) {
        for (int value = least; value <= most; value++) {
            call.accept(made.get(), value);
        }
        for (int value : new int[] {least - 1, most + 1, Integer.MIN_VALUE, Integer.MAX_VALUE, least - 32, most + 32}) {
            refused(what + " of " + value, made, due, x -> call.accept(x, value));
        }
    }

    static void end(String name) {
        System.out.println(name + ": " + asked + " answers looked at, " + wrong + " wrong");
        if (wrong != 0) {
            System.exit(1);
        }
    }
}
