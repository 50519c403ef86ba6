/** Promises 1 to 5: a new object, letters, towns, rooms, walkers. */
public final class TownTest {
    private static final Due DUE = new Due("TownTest");

    public static void main(String[] args) {
        newObject();
        letters();
        lettersOfATown();
        faultsOfLetters();
        faultsOfStatements();
        faultsChangeNothing();
        townsAddUp();
        pathsToldAgain();
        roofsToldAgain();
        tracesOfThoseWhoCome();
        rooms();
        walkers();
        DUE.end();
    }

    private static void newObject() {
        SmellHowLong x = new SmellHowLong();
        for (int room = 0; room < 6; room++) {
            for (int what = 0; what < 3; what++) {
                DUE.is("room(" + room + ", " + what + ")", x.room(room, what), 0);
            }
            DUE.is("smelt", x.smelt(room, 0), 0);
        }
        int[] counts = {0, 0, 0, 1, 0, 0, 0};
        for (int what = 0; what < counts.length; what++) {
            DUE.is("count(" + what + ")", x.count(what), counts[what]);
        }
        DUE.refusals(x, 0, 0, 0, 0, 0, 0);
        DUE.is("walker(0, 0)", x.walker(0, 0), -1);
        DUE.is("room(6, 0)", x.room(6, 0), -1);
        DUE.is("on()", x.on(), -3);
        DUE.is("clear()", x.clear(), 0);
    }

    private static void letters() {
        SmellHowLong x = new SmellHowLong();
        DUE.is("letter(0)", x.letter(0), 1);
        DUE.is("letter(255)", x.letter(255), 2);
        DUE.is("letter(-1)", x.letter(-1), -4);
        DUE.is("letter(256)", x.letter(256), -6);
        DUE.is("letter(least)", x.letter(Integer.MIN_VALUE), -4);
        DUE.is("letter(most)", x.letter(Integer.MAX_VALUE), -6);
        DUE.is("count(6)", x.count(6), 2);
        for (int i = 3; i <= 96; i++) {
            DUE.is("letter", x.letter('p'), i);
        }
        DUE.is("letter('p')", x.letter('p'), -6);
        DUE.is("letter(-1)", x.letter(-1), -4);
        DUE.is("letter(256)", x.letter(256), -6);
        DUE.is("count(6)", x.count(6), 96);
        DUE.refusals(x, 0, 0, 0, 3, 0, 4);
        DUE.is("town()", x.town(), -1000);
        DUE.is("count(6)", x.count(6), 0);
        DUE.is("letter('p')", x.letter('p'), 1);
    }

    private static void lettersOfATown() {
        SmellHowLong x = new SmellHowLong();
        DUE.is("town", Due.tell(x, "p01;p10;p01;w03;r5;r5;r5;n9;"), 8);
        DUE.is("letters left", x.count(6), 0);
        DUE.is("paths", x.count(1), 1);
        DUE.is("path of 0", x.room(0, 2), 2);
        DUE.is("path of 1", x.room(1, 2), 1);
        DUE.is("wind", x.room(0, 0), 3);
        DUE.is("roof", x.room(5, 1), 1);
        DUE.is("nose", x.count(3), 9);
        DUE.is("town", Due.tell(x, "w00;n1;"), 2);
        DUE.is("wind", x.room(0, 0), 0);
        DUE.is("nose", x.count(3), 1);

        SmellHowLong full = new SmellHowLong();
        DUE.is("96 letters", Due.tell(full, "p01;".repeat(24)), 24);
        DUE.is("96 letters that lack", Due.tell(full, "p01;".repeat(23) + "p012"), -1095);
        DUE.is("96 letters that lack", Due.tell(full, "p01;".repeat(22) + "aw0p01;w"), -1091);
        DUE.is("96 letters that lack", Due.tell(full, "n1;".repeat(31) + "aw0"), -1096);
    }

    private static void faultOf(String text, int want) {
        SmellHowLong x = new SmellHowLong();
        DUE.is(text, Due.tell(x, text), want);
        DUE.is(text + " letters", x.count(6), 0);
        DUE.refusals(x, 0, 0, 0, 0, 0, 0);
    }

    private static void faultsOfLetters() {
        faultOf("", -1000);
        faultOf(";", -1000);
        faultOf("x", -1000);
        faultOf("P01;", -1000);
        faultOf("\u00ff", -1000);
        faultOf("p", -1001);
        faultOf("p;", -1001);
        faultOf("p0", -1002);
        faultOf("p0;", -1002);
        faultOf("p01", -1003);
        faultOf("p012;", -1003);
        faultOf("p01;;", -1004);
        faultOf("p01; ", -1004);
        faultOf("p/1;", -1001);
        faultOf("p:1;", -1001);
        faultOf("w", -1001);
        faultOf("w0;", -1002);
        faultOf("w000;", -1003);
        faultOf("r", -1001);
        faultOf("r;", -1001);
        faultOf("r0", -1002);
        faultOf("r00;", -1002);
        faultOf("n", -1001);
        faultOf("n;", -1001);
        faultOf("n11;", -1002);
        faultOf("a", -1001);
        faultOf("a0;", -1001);
        faultOf("aW0;", -1001);
        faultOf("aa0;", -1001);
        faultOf("aw", -1002);
        faultOf("aw;", -1002);
        faultOf("aw0", -1003);
        faultOf("aw0w", -1003);
        faultOf("aw0123450;", 1);
        faultOf("aw01234501;", -1009);
        faultOf("aw0123450", -1009);
        faultOf("aw0123456701;", -1009);
        // A fault of a letter is told ahead of a fault of a statement before it.
        faultOf("p00;x", -1004);
        faultOf("n0;p0", -1005);
        for (String kind : new String[] {"w", "l", "f", "s", "b", "c"}) {
            faultOf("a" + kind + "5;", 1);
        }
    }

    private static void faultsOfStatements() {
        faultOf("p00;", -2000);
        faultOf("p55;", -2000);
        faultOf("p06;", -2000);
        faultOf("p60;", -2000);
        faultOf("p05;p50;", 2);
        faultOf("p01;p11;p66;", -2004);
        faultOf("w04;", -2000);
        faultOf("w60;", -2000);
        faultOf("w53;w59;", -2004);
        faultOf("r5;r6;", -2003);
        faultOf("n9;n0;", -2003);
        faultOf("aw5;aw6;", -2004);
        faultOf("aw0;aw012345;aw06;", -2013);
        faultOf("aw0543210;", 1);
        faultOf("aw0123459;", -2000);
        faultOf("al0;ac0;af0;ab0;", 4);
        faultOf("al0;ac0;af0;ab0;as0;", -2016);
        faultOf("al0;ac0;af0;ab0;p00;as0;", -2016);
        faultOf("n1;al0;ac0;af0;ab0;as0;p00;", -2019);
    }

    private static void faultsChangeNothing() {
        SmellHowLong x = Due.town("p23;n4;aw1;");
        DUE.is("fault", Due.tell(x, "p01;w02;r0;n7;aw0;p00;"), -2018);
        DUE.is("fault", Due.tell(x, "p01;w02;r0;n7;aw0;p0"), -1020);
        DUE.is("walkers", x.count(0), 1);
        DUE.is("paths", x.count(1), 1);
        DUE.is("nose", x.count(3), 4);
        DUE.is("traces", x.count(4), 1);
        DUE.is("wind", x.room(0, 0), 0);
        DUE.is("roof", x.room(0, 1), 0);
        DUE.is("walker(1, 0)", x.walker(1, 0), -1);
    }

    private static void townsAddUp() {
        SmellHowLong x = Due.town("p01;w11;r2;n3;aw01;");
        DUE.is("more", Due.tell(x, "p12;w22;r3;al1;"), 4);
        DUE.is("paths", x.count(1), 2);
        DUE.is("room(1, 2)", x.room(1, 2), 5);
        DUE.is("room(1, 0)", x.room(1, 0), 1);
        DUE.is("room(2, 0)", x.room(2, 0), 2);
        DUE.is("room(2, 1)", x.room(2, 1), 1);
        DUE.is("room(3, 1)", x.room(3, 1), 1);
        DUE.is("nose", x.count(3), 3);
        DUE.is("walkers", x.count(0), 2);
        DUE.is("walker(0, 2)", x.walker(0, 2), 1);
        DUE.is("walker(1, 0)", x.walker(1, 0), 1);
        DUE.is("more", Due.tell(x, "af2;as3;"), 2);
        DUE.is("a fifth", Due.tell(x, "n5;aw0;"), -2003);
        DUE.is("nose", x.count(3), 3);
    }

    /** The paths of rooms 0 to 2 (bits), and how many there are. */
    private static void paths(SmellHowLong x, int of0, int of1, int of2, int all) {
        DUE.is("room(0, 2)", x.room(0, 2), of0);
        DUE.is("room(1, 2)", x.room(1, 2), of1);
        DUE.is("room(2, 2)", x.room(2, 2), of2);
        DUE.is("paths", x.count(1), all);
    }

    private static void pathsToldAgain() {
        SmellHowLong x = new SmellHowLong();
        DUE.is("twice in one text", Due.tell(x, "p01;p01;"), 2);
        paths(x, 0, 0, 0, 0);
        DUE.is("across(0, 1)", x.across(0, 1), -9);
        DUE.is("a third time", Due.tell(x, "p01;"), 1);
        paths(x, 2, 1, 0, 1);
        DUE.is("across(0, 1)", x.across(0, 1), 1);
        DUE.is("from its other end, in a later text", Due.tell(x, "p12;p10;"), 2);
        paths(x, 0, 4, 2, 1);
        DUE.is("with a fault nothing goes", Due.tell(x, "p12;p11;"), -2004);
        paths(x, 0, 4, 2, 1);
        DUE.is("with a fault of a letter neither", Due.tell(x, "p12;p"), -1005);
        paths(x, 0, 4, 2, 1);
        x.image();
        DUE.is("behind an image", Due.tell(x, "p21;p02;"), 2);
        paths(x, 4, 0, 1, 1);
        x.on();
        paths(x, 0, 4, 2, 1);

        SmellHowLong y = Due.town("p01;aw0101;");
        y.pass(1);
        Due.tell(y, "p01;");
        DUE.is("no path back for him", y.walker(0, 3), 1);
        SmellHowLong z = Due.town("p01;p02;p01;af0;aw1;");
        DUE.is("nor for a follower", z.walker(0, 3), 0);
        Due.rows(z, 1, 0, 30, 30, 30, 30);
        DUE.is("nor for anybody", z.walked(1), 0);
    }

    private static void roofsToldAgain() {
        SmellHowLong x = Due.town("r0;r0;r5;aw0;aw5;");
        DUE.is("room(0, 1)", x.room(0, 1), 0);
        DUE.is("room(5, 1)", x.room(5, 1), 1);
        DUE.is("with a fault nothing goes", Due.tell(x, "r5;r6;"), -2003);
        DUE.is("room(5, 1)", x.room(5, 1), 1);
        DUE.is("rain()", x.rain(), 1);
        DUE.is("in a later text", Due.tell(x, "r5;r0;"), 2);
        DUE.is("room(0, 1)", x.room(0, 1), 1);
        DUE.is("room(5, 1)", x.room(5, 1), 0);
        DUE.is("rain()", x.rain(), 1);
        DUE.is("a third time", Due.tell(x, "r5;"), 1);
        DUE.is("room(5, 1)", x.room(5, 1), 1);
    }

    private static void tracesOfThoseWhoCome() {
        SmellHowLong x = new SmellHowLong();
        x.pass(7);
        DUE.is("town", Due.tell(x, "al0;ac1;ab2;af3;"), 4);
        DUE.is("age(0, 0)", x.age(0, 0), 0);
        DUE.is("age(1, 1)", x.age(1, 1), -9);
        DUE.is("age(2, 2)", x.age(2, 2), 0);
        DUE.is("age(3, 3)", x.age(3, 3), 0);
        DUE.is("traces", x.count(4), 3);
        SmellHowLong y = Due.town("as4;aw5;");
        DUE.is("age(0, 4)", y.age(0, 4), 0);
        DUE.is("age(1, 5)", y.age(1, 5), 0);
    }

    private static void rooms() {
        SmellHowLong x = Due.town("p05;p45;p15;w53;r5;");
        DUE.is("room(5, 0)", x.room(5, 0), 3);
        DUE.is("room(5, 1)", x.room(5, 1), 1);
        DUE.is("room(5, 2)", x.room(5, 2), 1 + 2 + 16);
        DUE.is("room(0, 2)", x.room(0, 2), 32);
        DUE.is("room(3, 2)", x.room(3, 2), 0);
        DUE.is("room(4, 1)", x.room(4, 1), 0);
        DUE.is("room(-1, 0)", x.room(-1, 0), -1);
        DUE.is("room(6, 9)", x.room(6, 9), -1);
        DUE.is("room(0, -1)", x.room(0, -1), -2);
        DUE.is("room(0, 3)", x.room(0, 3), -2);
        DUE.refusals(x, 2, 2, 0, 0, 0, 0);
    }

    private static void walkers() {
        SmellHowLong x = Due.town("p01;p12;aw012;al1;af2;ab5;");
        DUE.is("walker(0, 0)", x.walker(0, 0), 0);
        DUE.is("walker(1, 0)", x.walker(1, 0), 1);
        DUE.is("walker(2, 0)", x.walker(2, 0), 2);
        DUE.is("walker(3, 0)", x.walker(3, 0), 4);
        DUE.is("walker(3, 1)", x.walker(3, 1), 5);
        DUE.is("walker(0, 2)", x.walker(0, 2), 2);
        DUE.is("walker(3, 2)", x.walker(3, 2), 0);
        DUE.is("walker(0, 3)", x.walker(0, 3), 1);
        DUE.is("walker(1, 3)", x.walker(1, 3), 1);
        DUE.is("walker(2, 3)", x.walker(2, 3), 1);
        DUE.is("walker(3, 3)", x.walker(3, 3), 5);
        DUE.is("walker(-1, 0)", x.walker(-1, 0), -1);
        DUE.is("walker(4, 9)", x.walker(4, 9), -1);
        DUE.is("walker(0, -1)", x.walker(0, -1), -2);
        DUE.is("walker(0, 4)", x.walker(0, 4), -2);
        DUE.refusals(x, 2, 2, 0, 0, 0, 0);
        SmellHowLong y = Due.town("as0123450;ac0;");
        DUE.is("walker(0, 0)", y.walker(0, 0), 3);
        DUE.is("walker(0, 2)", y.walker(0, 2), 6);
        DUE.is("walker(1, 0)", y.walker(1, 0), 5);
        DUE.is("walker(2, 0)", y.walker(2, 0), -1);
    }
}
