/** Promises 11 to 16: ages, what is smelt, and what is so behind some minutes. */
public final class SmellTest {
    private static final Due DUE = new Due("SmellTest");

    public static void main(String[] args) {
        age();
        smelt();
        behind();
        freshest();
        meet();
        scented();
        nothingChanges();
        DUE.end();
    }

    private static void age() {
        SmellHowLong x = Due.town("w43;aw4;as4;");
        x.put(0, 0);
        x.put(1, 1);
        x.pass(40);
        x.pass(40);
        x.pass(19);
        DUE.is("age(0, 4)", x.age(0, 4), 396);
        DUE.is("age(1, 4)", x.age(1, 4), 198);
        DUE.is("age(0, 0)", x.age(0, 0), 0);
        DUE.is("age(0, 1)", x.age(0, 1), -9);
        DUE.is("age(2, 0)", x.age(2, 0), -1);
        DUE.is("age(-1, 0)", x.age(-1, 0), -1);
        DUE.is("age(0, 6)", x.age(0, 6), -1);
        DUE.is("age(0, -1)", x.age(0, -1), -1);
        DUE.refusals(x, 4, 0, 0, 0, 0, 0);
    }

    private static void smelts(SmellHowLong x, int room, int... wants) {
        for (int what = 0; what < 4; what++) {
            DUE.is("smelt(" + room + ", " + what + ")", x.smelt(room, what), wants[what]);
        }
    }

    private static void smelt() {
        SmellHowLong x = Due.town("aw0;al0;as0;");
        smelts(x, 0, 3, 0, 0, 1);
        smelts(x, 1, 0, -9, -9, 0);
        x.put(0, 1);
        x.put(1, 2);
        x.put(2, 3);
        x.pass(3);
        Due.tell(x, "af0;");
        // Ages 3, 3, 1, 0.
        smelts(x, 0, 4, 0, 3, 3);
        x.nose(2);
        smelts(x, 0, 4, 0, 3, 2);
        x.nose(3);
        smelts(x, 0, 4, 0, 3, 2);
        x.nose(4);
        smelts(x, 0, 4, 0, 3, 1);
        x.wind(0, 1);
        // Ages 6, 6, 3, 0.
        smelts(x, 0, 4, 0, 6, 2);
        x.nose(1);
        smelts(x, 0, 4, 0, 6, 3);
        smelts(x, 1, 1, 0, 0, 1);
        x.put(3, 4);
        x.pass(2);
        smelts(x, 0, 4, 4, 10, 3);
        DUE.is("smelt(6, 9)", x.smelt(6, 9), -1);
        DUE.is("smelt(-1, 0)", x.smelt(-1, 0), -1);
        DUE.is("smelt(0, 4)", x.smelt(0, 4), -2);
        DUE.is("smelt(0, -1)", x.smelt(0, -1), -2);
        DUE.refusals(x, 2, 2, 0, 0, 0, 0);
    }

    private static void behind() {
        SmellHowLong x = Due.town("p01;p12;p20;aw0120;af0;");
        int[] wants = {0, 1, 2, 0, 1};
        for (int n = 0; n < wants.length; n++) {
            DUE.is("behind(0, " + n + ")", x.behind(0, n), wants[n]);
        }
        DUE.is("behind(0, 40)", x.behind(0, 40), 1);
        DUE.is("behind(0, -1)", x.behind(0, -1), -4);
        DUE.is("behind(0, 41)", x.behind(0, 41), -6);
        DUE.is("behind(2, -1)", x.behind(2, -1), -1);
        DUE.is("behind(-1, 41)", x.behind(-1, 41), -1);
        DUE.is("minute", x.count(2), 0);
        x.pass(40);
        x.pass(40);
        x.pass(18);
        // In mind the minutes go on above 99: minute 98 is place 2 of the plan.
        DUE.is("walker(0, 1)", x.walker(0, 1), 2);
        DUE.is("behind(0, 1)", x.behind(0, 1), 0);
        DUE.is("behind(0, 2)", x.behind(0, 2), 1);
        DUE.is("behind(0, 3)", x.behind(0, 3), 2);
        DUE.refusals(x, 2, 0, 0, 1, 0, 1);
    }

    private static void freshest() {
        SmellHowLong x = Due.town("p01;w02;aw011;as0;");
        DUE.is("freshest(0, 0)", x.freshest(0, 0), 0);
        x.put(1, 5);
        // The walker's ages by 3, the strong one's half of it.
        DUE.is("freshest(0, 1)", x.freshest(0, 1), 1);
        DUE.is("freshest(0, 3)", x.freshest(0, 3), 4);
        DUE.is("freshest(0, 40)", x.freshest(0, 40), 60);
        DUE.is("freshest(1, 0)", x.freshest(1, 0), -9);
        DUE.is("freshest(1, 1)", x.freshest(1, 1), 0);
        DUE.is("freshest(5, 0)", x.freshest(5, 0), -9);
        DUE.is("freshest(5, 9)", x.freshest(5, 9), 0);
        DUE.is("freshest(2, 40)", x.freshest(2, 40), -9);
        DUE.is("freshest(6, -1)", x.freshest(6, -1), -1);
        DUE.is("freshest(-1, 41)", x.freshest(-1, 41), -1);
        DUE.is("freshest(0, -1)", x.freshest(0, -1), -4);
        DUE.is("freshest(0, 41)", x.freshest(0, 41), -6);
        DUE.refusals(x, 2, 0, 0, 1, 0, 1);
    }

    private static void meet() {
        SmellHowLong x = Due.town("p01;p12;p23;aw0123;aw3;ac0;aw5;");
        DUE.is("meet(0, 1)", x.meet(0, 1), 3);
        DUE.is("meet(1, 0)", x.meet(1, 0), 3);
        DUE.is("meet(0, 2)", x.meet(0, 2), 0);
        DUE.is("meet(0, 3)", x.meet(0, 3), -9);
        DUE.is("meet(0, 0)", x.meet(0, 0), -1);
        DUE.is("meet(0, 4)", x.meet(0, 4), -1);
        DUE.is("meet(4, 0)", x.meet(4, 0), -1);
        DUE.is("meet(-1, 0)", x.meet(-1, 0), -1);
        DUE.is("meet(7, 7)", x.meet(7, 7), -1);
        DUE.refusals(x, 5, 0, 0, 0, 0, 0);
        // Two who change places never are in one room.
        DUE.is("meet", Due.town("p01;aw010;aw101;").meet(0, 1), -9);
        DUE.is("the last minute of 40", Due.slowFollower(38).meet(2, 3), 40);
        DUE.is("a minute too late", Due.slowFollower(39).meet(2, 3), -9);
    }

    private static void scented() {
        SmellHowLong x = Due.town("p01;aw0;ac0;al1;as5;");
        DUE.is("scented(0)", x.scented(0), 2);
        x.put(3, 1);
        DUE.is("scented(0)", x.scented(0), 2 + 8);
        DUE.is("scented(1)", x.scented(1), 2 + 4 + 8);
        x.put(0, 5);
        DUE.is("scented(0)", x.scented(0), 1 + 2 + 8);
        DUE.is("scented(-1)", x.scented(-1), -4);
        DUE.is("scented(41)", x.scented(41), -6);
        DUE.is("scented(40)", x.scented(40), 1 + 2 + 4 + 8);
        x.rain();
        DUE.is("scented(0)", x.scented(0), 0);
        DUE.refusals(x, 0, 0, 0, 1, 0, 1);
    }

    private static void nothingChanges() {
        SmellHowLong x = Due.town("p01;aw01;af0;");
        x.behind(0, 9);
        x.freshest(0, 9);
        x.meet(0, 1);
        x.scented(9);
        DUE.is("minute", x.count(2), 0);
        DUE.is("traces", x.count(4), 2);
        DUE.is("walker(0, 1)", x.walker(0, 1), 0);
        DUE.is("age(0, 0)", x.age(0, 0), 0);
    }
}
