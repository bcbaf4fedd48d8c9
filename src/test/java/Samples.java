/** Objects and texts that several tests begin with. */
final class Samples {
    static final String FIVE = "task a 1;task b 2;task c 3;task d 4;task e 5";
    static final String RING = "task a 1;task b 1;task c 1;join 1;arrow a b;arrow b c;arrow c a";

    private Samples() {
    }

    /** A ring-free net with 24 tasks and 60 arrows, each from a task to one of the next three. */
    static String fullText() {
        StringBuilder text = new StringBuilder();
        for (int t = 0; t < 24; t++) {
            text.append(t == 0 ? "" : ";").append("task").append(' ').append((char) ('a' + t)).append(1);
        }
        int count = 0;
        for (int step = 1; step <= 3; step++) {
            for (int t = 0; t + step < 24 && count < 60; t++) {
                text.append(";arrow ").append((char) ('a' + t)).append(' ').append((char) ('a' + t + step));
                count++;
            }
        }
        return text.toString();
    }

    /** b (a+c+d) e with 4 inner arrows of 6, three changes, an output text, a name in the buffer and something saved. */
    static RingFreeOrder used() {
        RingFreeOrder x = Check.of(FIVE + ";join 1;arrow a c;arrow c d;arrow d a;arrow a d;arrow d e;arrow b a");
        x.save();
        x.setHours(0, 9);
        x.set(0, 2);
        x.set(1, 0);
        x.writeArrows(3);
        Check.give(x, "new");
        return x;
    }

    /** 24 groups a to x with 60 arrows. */
    static RingFreeOrder full() {
        return Check.of(fullText());
    }

    /** 24 tasks a to x without arrows. */
    static String all() {
        String text = fullText();
        return text.substring(0, text.indexOf(";arrow"));
    }

    /** One ring of 24 tasks. */
    static RingFreeOrder ringOf24() {
        RingFreeOrder x = Check.of(all() + ";join 1");
        for (int t = 0; t < 24; t++) {
            x.add(t, (t + 1) % 24);
        }
        return x;
    }

    /** 24 tasks of 9 HOURS, each with an arrow to the next one. */
    static RingFreeOrder chainOf24() {
        StringBuilder text = new StringBuilder(all().replace('1', '9'));
        for (char t = 'a'; t < 'x'; t++) {
            text.append(";arrow ").append(t).append(' ').append((char) (t + 1));
        }
        return Check.of(text.toString());
    }

    /** 24 groups x to a: each task led to the one ahead of it, and these arrows were cut. */
    static RingFreeOrder backwards() {
        StringBuilder text = new StringBuilder(all());
        StringBuilder cuts = new StringBuilder();
        for (char t = 'b'; t <= 'x'; t++) {
            text.append(";arrow ").append(t).append(' ').append((char) (t - 1));
            cuts.append("cut ").append(t).append(' ').append((char) (t - 1)).append(';');
        }
        RingFreeOrder x = Check.of(text.toString());
        Check.run(x, cuts.toString());
        return x;
    }

    /** 24 NAMEs of six letters. */
    static RingFreeOrder longNames() {
        RingFreeOrder x = Check.of("task aaaaaa 1;join 1");
        for (int t = 1; t < 24; t++) {
            Check.give(x, "aaaaa" + (char) ('a' + t));
            x.make(1);
        }
        return x;
    }

    /** 60 arrows, all tasks in one group. */
    static RingFreeOrder fullWithRing() {
        String text = fullText();
        return Check.of(text.substring(0, text.lastIndexOf(";arrow")) + ";join 1;arrow x a");
    }

    static RingFreeOrder named(String text, String name) {
        RingFreeOrder x = Check.of(text);
        Check.give(x, name);
        return x;
    }

    static String trialOf(RingFreeOrder x, int from, int to) {
        StringBuilder text = new StringBuilder();
        for (int k = 0; k < 6; k++) {
            text.append(k == 0 ? "" : " ").append(x.trial(from, to, k));
        }
        return text.toString();
    }
}
