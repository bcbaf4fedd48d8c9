/** What the tests share: comparing answers, handing texts over, reading texts back. */
final class Check {
    private static int wrong = 0;
    private static int asked = 0;

    private Check() {
    }

    static void same(String what, long got, long want) {
        asked++;
        if (got != want) {
            wrong++;
            System.out.println(what + ": answered " + got + ", due is " + want);
        }
    }

    static void same(String what, String got, String want) {
        asked++;
        if (!got.equals(want)) {
            wrong++;
            System.out.println(what + ": answered '" + got + "', due is '" + want + "'");
        }
    }

    /** The exception must be of the very class, not of one below it. */
    static void throwsIt(String what, Class<? extends RuntimeException> due, Runnable call) {
        asked++;
        RuntimeException thrown = null;
        try {
            call.run();
        } catch (RuntimeException e) {
            thrown = e;
        }
        if (thrown == null || thrown.getClass() != due) {
            wrong++;
            System.out.println(what + ": threw " + thrown + ", due is " + due.getSimpleName());
        }
    }

    static void index(String what, Runnable call) {
        throwsIt(what, IndexOutOfBoundsException.class, call);
    }

    static void argument(String what, Runnable call) {
        throwsIt(what, IllegalArgumentException.class, call);
    }

    static void state(String what, Runnable call) {
        throwsIt(what, IllegalStateException.class, call);
    }

    /** Puts a text into the input buffer, in place of what it has. */
    static void give(RingFreeOrder x, String text) {
        x.truncate(0);
        for (int at = 0; at < text.length(); at += 20) {
            x.append(number(text, at), number(text, at + 4), number(text, at + 8),
                    number(text, at + 12), number(text, at + 16));
        }
        x.truncate(text.length());
    }

    private static int number(String text, int at) {
        int value = 0;
        for (int k = at; k < at + 4; k++) {
            value = value << 8 | (k < text.length() ? text.charAt(k) & 255 : 0);
        }
        return value;
    }

    static RingFreeOrder of(String description) {
        RingFreeOrder x = new RingFreeOrder();
        give(x, description);
        x.readText();
        return x;
    }

    static int run(RingFreeOrder x, String orders) {
        give(x, orders);
        return x.runOrders();
    }

    /** The error of a text as "code@position", "0@-1" if it has none. */
    static String errorOfText(RingFreeOrder x, String text) {
        give(x, text);
        boolean thrown = false;
        try {
            x.readText();
        } catch (IllegalArgumentException e) {
            thrown = true;
        }
        return error(x, thrown);
    }

    static String errorOfOrders(RingFreeOrder x, String text) {
        give(x, text);
        boolean thrown = false;
        try {
            x.runOrders();
        } catch (IllegalArgumentException e) {
            thrown = true;
        }
        return error(x, thrown);
    }

    private static String error(RingFreeOrder x, boolean thrown) {
        String told = x.errorCode() + "@" + x.errorPosition();
        return thrown == (x.errorCode() != 0) ? told : told + " but thrown is " + thrown;
    }

    static String output(RingFreeOrder x) {
        StringBuilder text = new StringBuilder();
        for (int k = 0; x.outputByte(k) != RingFreeOrder.NONE; k++) {
            text.append((char) x.outputByte(k));
        }
        return text.toString();
    }

    static String order(RingFreeOrder x) {
        int length = x.writeOrder();
        String text = output(x);
        return length == text.length() ? text : text + " with length " + length;
    }

    static String arrows(RingFreeOrder x, int task) {
        int length = x.writeArrows(task);
        String text = output(x);
        return length == text.length() ? text : text + " with length " + length;
    }

    static String accounts(RingFreeOrder x) {
        StringBuilder text = new StringBuilder();
        for (int k = 0; k < 9; k++) {
            text.append(k == 0 ? "" : " ").append(x.account(k));
        }
        return text.toString();
    }

    /** All of an object that save() saves, as one text (the output text is written anew). */
    static String snapshot(RingFreeOrder x) {
        StringBuilder text = new StringBuilder(order(x));
        text.append(" mode ").append(x.size(3)).append(" join ").append(x.size(4)).append(" hours");
        for (int t = 0; t < x.size(0); t++) {
            text.append(' ').append(x.task(t, 0));
        }
        text.append(" arrows");
        for (int i = 0; i < x.size(1); i++) {
            text.append(' ').append(x.arrow(i, 0)).append('>').append(x.arrow(i, 1));
        }
        return text.append(" accounts ").append(accounts(x)).toString();
    }

    static void end(String name) {
        System.out.println(name + ": " + asked + " answers looked at, " + wrong + " wrong");
        if (wrong != 0) {
            System.exit(1);
        }
    }
}
