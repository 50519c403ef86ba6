/** Promises 6 to 10: put, wind, nose, minutes that go by (each kind), rain. */
public final class MinutesTest {
    private static final Due DUE = new Due("MinutesTest");

    public static void main(String[] args) {
        put();
        wind();
        nose();
        passRange();
        walkersAndPlans();
        lightAndClean();
        strong();
        followers();
        backwards();
        allAtOnce();
        rain();
        DUE.end();
    }

    private static void put() {
        SmellHowLong x = Due.town("aw0;al1;");
        DUE.is("put(0, 3)", x.put(0, 3), 0);
        DUE.is("walker(0, 1)", x.walker(0, 1), 3);
        DUE.is("age(0, 3)", x.age(0, 3), -9);
        DUE.is("age(0, 0)", x.age(0, 0), 0);
        DUE.is("traces", x.count(4), 2);
        DUE.is("put(0, 3)", x.put(0, 3), 3);
        DUE.is("put(1, 5)", x.put(1, 5), 1);
        DUE.is("walker(1, 1)", x.walker(1, 1), 5);
        DUE.is("put(2, 0)", x.put(2, 0), -1);
        DUE.is("put(-1, 0)", x.put(-1, 0), -1);
        DUE.is("put(0, 6)", x.put(0, 6), -1);
        DUE.is("put(0, -1)", x.put(0, -1), -1);
        DUE.is("put(9, 9)", x.put(9, 9), -1);
        DUE.is("walker(0, 1)", x.walker(0, 1), 3);
        DUE.refusals(x, 5, 0, 0, 0, 0, 0);
    }

    private static void wind() {
        SmellHowLong x = Due.town("aw0;w52;");
        DUE.is("wind(5, 0)", x.wind(5, 0), 2);
        DUE.is("wind(0, 3)", x.wind(0, 3), 0);
        DUE.is("wind(0, 1)", x.wind(0, 1), 3);
        DUE.is("wind(6, -1)", x.wind(6, -1), -1);
        DUE.is("wind(-1, 4)", x.wind(-1, 4), -1);
        DUE.is("wind(0, -1)", x.wind(0, -1), -4);
        DUE.is("wind(0, 4)", x.wind(0, 4), -6);
        DUE.is("room(0, 0)", x.room(0, 0), 1);
        DUE.refusals(x, 2, 0, 0, 1, 0, 1);
        x.put(0, 1);
        x.pass(5);
        DUE.is("age(0, 0)", x.age(0, 0), 10);
        x.wind(0, 3);
        DUE.is("age(0, 0)", x.age(0, 0), 20);
        x.wind(0, 0);
        DUE.is("age(0, 0)", x.age(0, 0), 5);
    }

    private static void nose() {
        SmellHowLong x = new SmellHowLong();
        DUE.is("nose(9)", x.nose(9), 1);
        DUE.is("nose(1)", x.nose(1), 9);
        DUE.is("nose(4)", x.nose(4), 1);
        DUE.is("nose(0)", x.nose(0), -4);
        DUE.is("nose(-9)", x.nose(-9), -4);
        DUE.is("nose(10)", x.nose(10), -6);
        DUE.is("count(3)", x.count(3), 4);
        DUE.refusals(x, 0, 0, 0, 2, 0, 1);
    }

    private static void passRange() {
        SmellHowLong x = new SmellHowLong();
        DUE.is("pass(0)", x.pass(0), -4);
        DUE.is("pass(least)", x.pass(Integer.MIN_VALUE), -4);
        DUE.is("pass(41)", x.pass(41), -6);
        DUE.is("pass(most)", x.pass(Integer.MAX_VALUE), -6);
        DUE.is("pass(40)", x.pass(40), 40);
        DUE.is("pass(1)", x.pass(1), 41);
        DUE.is("pass(39)", x.pass(39), 80);
        DUE.is("pass(20)", x.pass(20), -6);
        DUE.is("pass(19)", x.pass(19), 99);
        DUE.is("pass(1)", x.pass(1), -6);
        DUE.is("pass(0)", x.pass(0), -4);
        DUE.is("count(2)", x.count(2), 99);
        DUE.refusals(x, 0, 0, 0, 3, 0, 4);
    }

    private static void places(SmellHowLong x, int walker, int... wants) {
        for (int want : wants) {
            x.pass(1);
            DUE.is("walker(" + walker + ", 1) in minute " + x.count(2), x.walker(walker, 1), want);
        }
    }

    private static void walkersAndPlans() {
        places(Due.town("p01;p12;aw012;"), 0, 1, 2, 1, 2);
        // From 1 no path leads to 3, so he stays till the plan tells 0.
        places(Due.town("p01;p03;aw0130;"), 0, 1, 1, 0, 1);
        places(Due.town("p01;aw0;"), 0, 0, 0, 0);
        places(Due.town("p01;aw000;"), 0, 0, 0, 0);
        SmellHowLong late = Due.town("p01;p02;n1;");
        late.pass(1);
        Due.tell(late, "aw012;");
        places(late, 0, 2, 2);
        SmellHowLong x = Due.town("p01;aw01;");
        x.pass(4);
        DUE.is("age(0, 0)", x.age(0, 0), 4);
        DUE.is("age(0, 1)", x.age(0, 1), 0);
    }

    private static void lightAndClean() {
        SmellHowLong x = Due.town("p01;al01;");
        DUE.is("pass(1)", x.pass(1), 1);
        DUE.is("walker(0, 1)", x.walker(0, 1), 1);
        DUE.is("age(0, 1)", x.age(0, 1), -9);
        DUE.is("age(0, 0)", x.age(0, 0), 1);
        x.pass(1);
        DUE.is("age(0, 1)", x.age(0, 1), 0);
        x.put(0, 0);
        x.pass(1);
        DUE.is("age(0, 1)", x.age(0, 1), 1);
        DUE.is("age(0, 0)", x.age(0, 0), 3);
        x.put(0, 5);
        x.pass(1);
        DUE.is("age(0, 5)", x.age(0, 5), 0);
        SmellHowLong light = Due.town("p01;w01;al01;");
        light.pass(3);
        DUE.is("age(0, 0)", light.age(0, 0), 6);

        SmellHowLong y = Due.town("p01;ac0110;");
        places(y, 0, 1, 1, 0, 1);
        DUE.is("traces", y.count(4), 0);
        DUE.is("age(0, 1)", y.age(0, 1), -9);
    }

    private static void strong() {
        SmellHowLong x = Due.town("p01;w02;as01;");
        places(x, 0, 1, 1, 1);
        DUE.is("age(0, 0)", x.age(0, 0), 4);
        x.wind(0, 0);
        DUE.is("age(0, 0)", x.age(0, 0), 1);
        DUE.is("age(0, 1)", x.age(0, 1), 0);
        x.pass(2);
        DUE.is("age(0, 0)", x.age(0, 0), 2);
    }

    private static void followers() {
        DUE.is("to the only trace", Due.town("p01;p02;af0;aw2;").walker(0, 3), 2);
        DUE.is("no path there", Due.town("p01;af0;aw2;").walker(0, 3), 0);
        DUE.is("no traces", Due.town("p01;p02;af0;ac2;").walker(0, 3), 0);
        DUE.is("his own room first", Due.town("p01;p02;af1;aw0;aw1;").walker(0, 3), 1);
        DUE.is("then the least", Due.town("p31;p32;af3;aw2;aw1;").walker(0, 3), 1);
        DUE.is("not two paths far", Due.town("p01;p12;af0;aw2;").walker(0, 3), 0);
        DUE.is("he has no plan to go by", Due.town("p01;p02;af01;aw2;").walker(0, 3), 2);
        SmellHowLong x = Due.town("p01;p02;w11;af0;aw1;aw2;");
        x.put(1, 5);
        x.put(2, 5);
        x.put(0, 5);
        x.pass(1);
        x.put(0, 0);
        // The traces in 1 and 2 are of one minute, but the wind in 1 makes the one there older.
        DUE.is("the freshest age", x.walker(0, 3), 2);
        x.wind(1, 0);
        DUE.is("the freshest age", x.walker(0, 3), 1);
        x.nose(9);
        x.wind(1, 2);
        DUE.is("the nose is no matter", x.walker(0, 3), 2);
        SmellHowLong own = Due.town("p01;af0;");
        own.put(0, 1);
        DUE.is("his own trace is none", own.walker(0, 3), 1);
        SmellHowLong leaves = Due.town("p01;w01;af0;aw1;");
        leaves.pass(3);
        DUE.is("age(0, 0)", leaves.age(0, 0), 6);
        DUE.is("age(0, 1)", leaves.age(0, 1), 0);
    }

    private static void backwards() {
        DUE.is("to the only trace", Due.town("p01;p02;ab0;aw2;").walker(0, 3), 2);
        DUE.is("no traces", Due.town("p01;p02;ab0;ac2;").walker(0, 3), 0);
        DUE.is("his own room first", Due.town("p01;p02;ab1;aw0;aw1;").walker(0, 3), 1);
        DUE.is("then the least", Due.town("p31;p32;ab3;aw2;aw1;").walker(0, 3), 1);
        SmellHowLong x = Due.town("p01;p02;ab0;aw1;");
        x.put(1, 2);
        x.put(0, 5);
        x.pass(1);
        x.put(0, 0);
        DUE.is("the greatest age", x.walker(0, 3), 1);
        Due.tell(x, "aw1;");
        DUE.is("the greatest of any, though a fresh one is there", x.walker(0, 3), 1);
        x.rain();
        Due.tell(x, "aw2;");
        DUE.is("what is left", x.walker(0, 3), 2);
        SmellHowLong leaves = Due.town("p01;ab0;aw1;");
        leaves.pass(2);
        DUE.is("age(0, 0)", leaves.age(0, 0), 2);
        DUE.is("age(0, 1)", leaves.age(0, 1), 0);
    }

    private static void allAtOnce() {
        SmellHowLong x = Due.town("p01;af0;af1;");
        x.pass(1);
        DUE.is("walker(0, 1)", x.walker(0, 1), 1);
        DUE.is("walker(1, 1)", x.walker(1, 1), 0);
        // Now each stands on the other's older trace and smells the fresh one beside him.
        x.pass(1);
        DUE.is("walker(0, 1)", x.walker(0, 1), 0);
        DUE.is("walker(1, 1)", x.walker(1, 1), 1);
        DUE.is("pass(3) is as three", x.pass(3), 5);
        DUE.is("walker(0, 1)", x.walker(0, 1), 1);
    }

    private static void rain() {
        SmellHowLong x = Due.town("r0;r5;aw0;aw1;aw1;as5;");
        DUE.is("rain()", x.rain(), 2);
        DUE.is("traces", x.count(4), 2);
        DUE.is("age(0, 0)", x.age(0, 0), 0);
        DUE.is("age(1, 1)", x.age(1, 1), -9);
        DUE.is("age(2, 1)", x.age(2, 1), -9);
        DUE.is("age(3, 5)", x.age(3, 5), 0);
        DUE.is("rain()", x.rain(), 0);
        x.pass(1);
        DUE.is("age(1, 1)", x.age(1, 1), 0);
        DUE.is("walker(1, 1)", x.walker(1, 1), 1);
        DUE.is("rain()", x.rain(), 2);
        DUE.is("rain()", new SmellHowLong().rain(), 0);
    }
}
