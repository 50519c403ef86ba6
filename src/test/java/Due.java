/** What the tests share: answers that are due, and towns told by a text. */
final class Due {
    private final String name;
    private int asked = 0;
    private int wrong = 0;

    Due(String name) {
        this.name = name;
    }

    void is(String call, long got, long want) {
        asked++;
        if (got != want) {
            wrong++;
            System.out.println(name + ": " + call + " answered " + got + ", due is " + want);
        }
    }

    /** Tells letters and makes a town of them. */
    static int tell(SmellHowLong x, String text) {
        for (int i = 0; i < text.length(); i++) {
            x.letter(text.charAt(i));
        }
        return x.town();
    }

    static SmellHowLong town(String text) {
        SmellHowLong x = new SmellHowLong();
        int statements = tell(x, text);
        if (statements < 1) {
            throw new IllegalStateException("the test's own town is faulty: " + text + " " + statements);
        }
        return x;
    }

    /**
     * A follower (2) in 0 smells the trace that a walker left there in that minute, and beside it
     * in 1 a strong one's of minute 0, which ages half as fast: so many minutes and 2 more from
     * then on he comes to 1, where a clean one (3) waits. Behind 0 there is also an empty room 2.
     */
    static SmellHowLong slowFollower(int minute) {
        SmellHowLong x = town("p01;p02;aw0;as1;af5;ac1;");
        x.put(1, 4);
        x.pass(minute);
        x.put(0, 3);
        x.put(2, 0);
        return x;
    }

    static void rows(SmellHowLong x, int... numbers) {
        x.clear();
        for (int v : numbers) {
            x.row(v);
        }
    }

    /** How often each refusal was answered: -1, -2, -3, -4, -5, -6. */
    void refusals(SmellHowLong x, int... wants) {
        for (int i = 0; i < wants.length; i++) {
            is("count(" + (11 + i) + ")", x.count(11 + i), wants[i]);
        }
    }

    void end() {
        System.out.println(name + ": " + asked + " answers, " + wrong + " wrong");
        if (wrong != 0) {
            System.exit(1);
        }
    }
}
