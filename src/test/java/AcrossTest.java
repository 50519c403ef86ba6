/** Promises 20 to 22: the soonest ways across, and how long a trace is told apart. */
public final class AcrossTest {
    private static final Due DUE = new Due("AcrossTest");

    public static void main(String[] args) {
        across();
        covered();
        refusals();
        told();
        nothingChanges();
        DUE.end();
    }

    private static void across() {
        SmellHowLong empty = Due.town("p01;p12;p23;");
        DUE.is("across(0, 0)", empty.across(0, 0), 0);
        DUE.is("across(0, 3)", empty.across(0, 3), 3);
        DUE.is("across(3, 0)", empty.across(3, 0), 3);
        DUE.is("across(0, 4)", empty.across(0, 4), -9);

        SmellHowLong x = Due.town("p01;p12;p03;p34;p42;ac1;");
        DUE.is("round him", x.across(0, 2), 3);
        DUE.is("where he stays", x.across(0, 1), -9);
        DUE.is("the first minute is no matter", x.across(1, 2), 1);
        DUE.is("being there at first", x.across(1, 1), 0);

        // He goes from 1 to 5 in the first minute, so 1 is empty behind it.
        DUE.is("where he goes away", Due.town("p01;p15;ac15;").across(0, 1), 1);
        // He comes back into 1 in each second minute: one waits in 0, or goes through.
        SmellHowLong y = Due.town("p01;p12;p15;ac151;");
        DUE.is("through behind him", y.across(0, 2), 2);
        DUE.is("through", y.across(2, 0), 2);
        SmellHowLong z = Due.town("p01;p12;p15;ac515;");
        DUE.is("waiting a minute", z.across(0, 2), 3);
        // No staying where he comes: 0 is his from the first minute on.
        DUE.is("nowhere to go", Due.town("p10;ac10;").across(0, 2), -9);

        DUE.is("the last minute of 40", Due.slowFollower(38).across(2, 0), 40);
        DUE.is("a minute too late", Due.slowFollower(39).across(2, 0), -9);
        DUE.is("his traces nobody smells", Due.town("p01;p12;af1;").across(0, 2), -9);
    }

    private static void covered() {
        SmellHowLong x = Due.town("p01;p12;p23;aw0;aw1;aw2;ac3;");
        DUE.is("covered(0, 0)", x.covered(0, 0), 0);
        DUE.is("covered(0, 2)", x.covered(0, 2), 2);
        DUE.is("a clean one leaves none", x.covered(0, 3), -9);
        DUE.is("from anywhere", x.covered(3, 0), 3);
        DUE.is("being there at first", x.covered(5, 5), 0);

        // The trace in 1 is of minute 0: 3 minutes it covers, a fourth it does not.
        SmellHowLong y = Due.town("p12;p23;p34;p45;p01;aw1;aw2;aw3;aw4;");
        y.put(0, 0);
        y.put(1, 0);
        y.put(2, 0);
        y.put(3, 0);
        DUE.is("covered(1, 4)", y.covered(1, 4), 3);
        DUE.is("covered(0, 4)", y.covered(0, 4), -9);
        DUE.is("covered(0, 3)", y.covered(0, 3), 3);
        y.wind(3, 1);
        DUE.is("covered(0, 3)", y.covered(0, 3), -9);
        SmellHowLong fresh = Due.town("p01;p12;w22;aw2;");
        fresh.put(0, 5);
        DUE.is("age 3", fresh.covered(1, 2), 1);
        fresh.wind(2, 3);
        DUE.is("age 4", fresh.covered(1, 2), -9);
        DUE.is("the walkers are no matter", Due.town("p01;aw1;").covered(0, 1), 1);

        DUE.is("the last minute of 40", Due.slowFollower(38).covered(0, 1), 40);
        DUE.is("a minute too late", Due.slowFollower(39).covered(0, 1), -9);
    }

    private static void refusals() {
        SmellHowLong x = new SmellHowLong();
        DUE.is("across(6, 0)", x.across(6, 0), -1);
        DUE.is("across(0, 6)", x.across(0, 6), -1);
        DUE.is("across(-1, 0)", x.across(-1, 0), -1);
        DUE.is("across(0, -1)", x.across(0, -1), -1);
        DUE.is("across(7, 7)", x.across(7, 7), -1);
        DUE.is("covered(6, 0)", x.covered(6, 0), -1);
        DUE.is("covered(0, 6)", x.covered(0, 6), -1);
        DUE.is("covered(-1, 0)", x.covered(-1, 0), -1);
        DUE.is("covered(0, -1)", x.covered(0, -1), -1);
        DUE.is("told(6)", x.told(6), -1);
        DUE.is("told(-1)", x.told(-1), -1);
        DUE.refusals(x, 11, 0, 0, 0, 0, 0);
    }

    /** A walker's trace in 0 left so many minutes behind a strong one's. */
    private static SmellHowLong walkerBehindStrong(int minutes) {
        SmellHowLong x = Due.town("as0;");
        x.put(0, 5);
        x.pass(minutes);
        Due.tell(x, "aw0;");
        return x;
    }

    private static void told() {
        SmellHowLong x = Due.town("aw0;");
        DUE.is("no trace", x.told(1), -9);
        DUE.is("one trace", x.told(0), -9);
        Due.tell(x, "al0;");
        DUE.is("two alike", x.told(0), 0);
        x.put(0, 1);
        x.put(1, 1);
        x.pass(3);
        Due.tell(x, "as0;");
        // Ages 3 and 3 and the freshest, 0 by half: never more than 3 behind, but always.
        DUE.is("told(0)", x.told(0), 41);
        x.nose(9);
        DUE.is("told(0)", x.told(0), 0);
        x.nose(2);
        // 0 by 2 against 3 by 2: then 4 by 2 against 0, and so on.
        DUE.is("told(0)", x.told(0), 41);
        DUE.is("left by the last", x.told(1), 0);

        // Two of four walkers, the traces of minutes 1 and 2: nobody else's trace of minute 0.
        SmellHowLong two = new SmellHowLong();
        two.pass(1);
        Due.tell(two, "aw0;");
        two.put(0, 1);
        two.pass(1);
        Due.tell(two, "aw0;");
        DUE.is("two of two", two.told(0), 41);
        two.nose(3);
        DUE.is("0 and 1 by 3", two.told(0), 0);
        two.put(1, 1);
        two.pass(2);
        DUE.is("2 and 3 by 3", two.told(0), 1);

        // By halves the older comes to be as fresh: minute t against (t + m) by 2, cut.
        DUE.is("told(0)", walkerBehindStrong(2).told(0), 1);
        DUE.is("told(0)", walkerBehindStrong(40).told(0), 39);
        SmellHowLong last = walkerBehindStrong(40);
        last.pass(1);
        DUE.is("he left more", last.told(0), 40);
        SmellHowLong late = walkerBehindStrong(40);
        late.pass(2);
        DUE.is("always", late.told(0), 41);

        // 8 by 9 against 9 by 9: told apart now, in a minute not.
        SmellHowLong nose = Due.town("aw0;");
        nose.put(0, 1);
        nose.pass(1);
        Due.tell(nose, "aw0;n9;");
        nose.put(1, 1);
        nose.pass(8);
        DUE.is("told(0)", nose.told(0), 1);
        SmellHowLong windy = Due.town("aw0;");
        windy.put(0, 1);
        windy.pass(2);
        Due.tell(windy, "aw0;n9;");
        windy.put(1, 1);
        windy.pass(1);
        DUE.is("3 and 1 by 9", windy.told(0), 0);
        windy.wind(0, 3);
        DUE.is("12 and 4 by 9, 8 minutes behind it 44 and 36", windy.told(0), 8);
    }

    private static void nothingChanges() {
        SmellHowLong x = Due.town("p01;p12;aw01;af0;");
        x.across(0, 2);
        x.covered(0, 2);
        x.told(0);
        DUE.is("minute", x.count(2), 0);
        DUE.is("traces", x.count(4), 2);
        DUE.is("walker(0, 1)", x.walker(0, 1), 0);
    }
}
