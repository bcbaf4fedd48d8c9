/** How RingFreeOrder is used; README.md shows this file and what it prints. */
public final class Example {
    private Example() {
    }

    public static void main(String[] args) {
        RingFreeOrder order = new RingFreeOrder();
        give(order, "task a 1;task b 2;task c 3;arrow c a");
        System.out.println("tasks " + order.readText());
        order.writeOrder();
        System.out.println("order " + textOf(order));
        order.writeArrows(2);
        System.out.println("arrows from c " + textOf(order));

        // an arrow from a to c would make a ring: a refusal, and why
        System.out.println("add " + order.add(0, 2));
        System.out.println("why " + order.why(0, 2, 0) + " " + order.why(0, 2, 1) + " " + order.why(0, 2, 2));
        System.out.println("JOIN before " + order.set(1, 1));
        System.out.println("groups to be joined " + order.trial(0, 2, 3));
        System.out.println("MOVED " + order.add(0, 2));
        order.writeOrder();
        System.out.println("order " + textOf(order));
        System.out.println("changes left " + order.undo());

        give(order, "hours b 9; swap 0; cut b a; refresh;");
        System.out.println("orders done " + order.runOrders());
        give(order, "hours b 10;");
        try {
            order.runOrders();
        } catch (IllegalArgumentException e) {
            System.out.println("error " + order.errorCode() + " at " + order.errorPosition());
        }
        try {
            order.task(3, 0);
        } catch (IndexOutOfBoundsException e) {
            System.out.println("there is no task 3");
        }
    }

    /** Puts a text of at most 900 bytes into the input buffer, in place of what it has. */
    static void give(RingFreeOrder order, String text) {
        order.truncate(0);
        for (int at = 0; at < text.length(); at += 20) {
            order.append(four(text, at), four(text, at + 4), four(text, at + 8), four(text, at + 12), four(text, at + 16));
        }
        // the last call may have appended more than the text has
        order.truncate(text.length());
    }

    /** Four bytes of a text as a number, the most significant byte first; 0 behind its end. */
    private static int four(String text, int at) {
        int number = 0;
        for (int k = at; k < at + 4; k++) {
            number = number << 8 | (k < text.length() ? text.charAt(k) & 255 : 0);
        }
        return number;
    }

    /** The output text, byte by byte. */
    static String textOf(RingFreeOrder order) {
        StringBuilder text = new StringBuilder();
        int sign = order.outputByte(0);
        while (sign != RingFreeOrder.NONE) {
            text.append((char) sign);
            sign = order.outputByte(text.length());
        }
        return text.toString();
    }
}
