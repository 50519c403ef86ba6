/** Objects in the states in which bounds are asked. */
final class Towns {
    /** Every room joined with every other one: 15 paths in 60 letters. */
    static final String ALL_PATHS = "p01;p02;p03;p04;p05;p12;p13;p14;p15;p23;p24;p25;p34;p35;p45;";

    private Towns() {
    }

    /**
     * Something of everything: winds, roofs, paths, three walkers, traces of unlike ages, a nose, an
     * image of an earlier minute, four numbers in the row and two letters that go on to a path.
     */
    static SmellHowLong busy() {
        SmellHowLong x = busyWithoutLetters();
        letters(x, "p0");
        return x;
    }

    static SmellHowLong busyWithoutLetters() {
        SmellHowLong x = Due.town("p01;p12;p23;w12;w33;r1;r4;n3;aw0123;as1;af2;");
        x.pass(2);
        x.image();
        x.pass(3);
        x.put(1, 5);
        x.pass(1);
        Due.rows(x, 12, 0, 30, 7);
        return x;
    }

    /** As busy, but with a row of six numbers: somebody went from 0 by 1 to 2. */
    static SmellHowLong busyWithRowOfSix() {
        SmellHowLong x = busy();
        Due.rows(x, 2, 1, 0, 30, 30, 30);
        return x;
    }

    static SmellHowLong full() {
        return Due.town(ALL_PATHS + "aw0;al1;as2;ac3;");
    }

    /** A town told in minute 0, and then so many minutes. */
    static SmellHowLong at(int minute, String text) {
        SmellHowLong x = Due.town(text);
        goTo(x, minute);
        return x;
    }

    static void goTo(SmellHowLong x, int minute) {
        for (int left = minute - x.count(2); left > 0; left -= 40) {
            x.pass(Math.min(left, 40));
        }
    }

    static void letters(SmellHowLong x, String text) {
        for (int i = 0; i < text.length(); i++) {
            x.letter(text.charAt(i));
        }
    }
}
