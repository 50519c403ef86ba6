/** The bounds that the document names of the ROW, of ways walked and of JUDGED: promises 17 to 19, 23 to 25. */
public final class BoundsOfRowsTest {
    private static final Due DUE = new Due("BoundsOfRowsTest");
    private static final Bounds BUSY = new Bounds(DUE, Towns::busy);
    private static final Bounds SIX = new Bounds(DUE, Towns::busyWithRowOfSix);
    private static final Bounds NEW = new Bounds(DUE, SmellHowLong::new);
    private static final int MIN = Integer.MIN_VALUE;
    private static final int MAX = Integer.MAX_VALUE;

    public static void main(String[] args) {
        numbersOfNoughtTo30();
        twelveNumbers();
        clearedOfNoneToTwelve();
        judgedOfNoneToTwelve();
        judgedByTheFirstWrong();
        thirtyIsNeverAnAge();
        judgedLeavesAllElse();
        walkedWhen();
        likeliestWhen();
        sureWhen();
        sixNumbersAlone();
        theRowStays();
        noMinute();
        oneMinute();
        agesOfARow();
        fromAnyRoomByAPathOrStaying();
        mostWays();
        likeliestOfSeveral();
        whateverTheTownIs();
        DUE.end();
    }

    private static SmellHowLong row(int length, int... numbers) {
        SmellHowLong x = new SmellHowLong();
        for (int i = 0; i < length; i++) {
            x.row(i < numbers.length ? numbers[i] : 30);
        }
        return x;
    }

    private static SmellHowLong townAndRow(String text, int... numbers) {
        SmellHowLong x = Due.town(text);
        Due.rows(x, numbers);
        return x;
    }

    /** "A number more of the ROW (0 .. 30) .. -4; -6 (30; ..". */
    private static void numbersOfNoughtTo30() {
        for (int v = 0; v <= 30; v++) {
            int number = v;
            DUE.is("count(5)", NEW.taken("row(" + v + ")", x -> x.row(number), 1).count(5), 1);
            DUE.is("count(5)", BUSY.taken("row(" + v + ")", x -> x.row(number), 5).count(5), 5);
        }
        for (int v : new int[] {-1, -9, MIN}) {
            BUSY.refused("row(" + v + ")", x -> x.row(v), -4);
            NEW.refused("row(" + v + ")", x -> x.row(v), -4);
        }
        for (int v : new int[] {31, 32, MAX}) {
            BUSY.refused("row(" + v + ")", x -> x.row(v), -6);
            NEW.refused("row(" + v + ")", x -> x.row(v), -6);
        }
        // What is refused is not in the row.
        SmellHowLong x = Due.town("aw0;");
        x.row(-1);
        x.row(0);
        x.row(31);
        for (int room = 1; room <= 5; room++) {
            x.row(30);
        }
        DUE.is("count(5)", x.count(5), 6);
        DUE.is("walked(0)", x.walked(0), 1);
        DUE.is("judge()", x.judge(), -9);
    }

    /** "-6 (..; 12, too)." */
    private static void twelveNumbers() {
        for (int length = 0; length <= 11; length++) {
            int l = length;
            new Bounds(DUE, () -> row(l)).taken("number " + (l + 1), x -> x.row(30), l + 1);
        }
        Bounds twelve = new Bounds(DUE, () -> row(12));
        twelve.still("count(5)", x -> x.count(5), 12);
        for (int v : new int[] {0, 1, 30, 31, MAX}) {
            twelve.refused("a 13th of " + v, x -> x.row(v), -6);
        }
        for (int v : new int[] {-1, MIN}) {
            twelve.refused("a 13th of " + v, x -> x.row(v), -4);
        }
        SmellHowLong x = row(12);
        x.clear();
        for (int i = 1; i <= 12; i++) {
            DUE.is("number " + i + " again", x.row(0), i);
        }
        DUE.is("a 13th again", x.row(0), -6);
    }

    /** "The ROW has none then: how many it had." */
    private static void clearedOfNoneToTwelve() {
        NEW.still("clear() of none", x -> x.clear(), 0);
        for (int length = 0; length <= 12; length++) {
            int l = length;
            Bounds bounds = new Bounds(DUE, () -> row(l));
            SmellHowLong x = bounds.taken("clear() of " + l, y -> y.clear(), l);
            DUE.is("count(5)", x.count(5), 0);
            DUE.is("clear()", x.clear(), 0);
            bounds.sameSight("clear() of " + l, x, new SmellHowLong());
        }
        SmellHowLong busy = BUSY.taken("clear()", y -> y.clear(), 4);
        SmellHowLong twin = Towns.busy();
        Due.rows(busy, 12, 0, 30, 7);
        BUSY.sameSight("clear() and the same again", busy, twin);
        DUE.is("town()", busy.town(), twin.town());
        DUE.is("on()", busy.on(), twin.on());
    }

    /** "where it ends, if too short; 6, if too long; else -9", "(whichever it answers, the ROW has none then)". */
    private static void judgedOfNoneToTwelve() {
        for (int length = 0; length <= 12; length++) {
            int l = length;
            SmellHowLong x = new Bounds(DUE, () -> row(l))
                    .taken("judge() of " + l, y -> y.judge(), l < 6 ? l : l == 6 ? -9 : 6);
            DUE.is("count(5) of " + l, x.count(5), 0);
            DUE.is("judge() again", x.judge(), 0);
            DUE.is("row(30)", x.row(30), 1);
        }
    }

    /** "the first that is not so now", ahead of what its length tells. */
    private static void judgedByTheFirstWrong() {
        for (int wrong = 0; wrong <= 5; wrong++) {
            for (int length = 0; length <= 12; length++) {
                int[] numbers = {30, 30, 30, 30, 30, 30};
                numbers[wrong] = 0;
                int l = length;
                int want = l <= wrong ? l : wrong;
                SmellHowLong x = new Bounds(DUE, () -> row(l, numbers))
                        .taken("judge() of " + l + ", wrong in " + wrong, y -> y.judge(), want);
                DUE.is("count(5)", x.count(5), 0);
            }
        }
        int[] both = {30, 0, 30, 0, 30, 30};
        DUE.is("the first of two", row(6, both).judge(), 1);
        // A seventh number is of no room: whatever it is, the row is too long.
        for (int v : new int[] {0, 5, 30}) {
            DUE.is("a seventh of " + v, row(7, 30, 30, 30, 30, 30, 30, v).judge(), 6);
        }
        SmellHowLong least = Due.town("as5;w53;aw0;");
        least.put(0, 1);
        least.put(1, 1);
        least.pass(1);
        Due.rows(least, 1, 0, 30, 30, 30, 2);
        DUE.is("least ages, by wind and kind", least.judge(), -9);
        Due.rows(least, 1, 0, 30, 30, 30, 4);
        DUE.is("the minutes alone", least.judge(), 5);
        Due.rows(least, 1, 0, 30, 30, 30, 30);
        DUE.is("there is one", least.judge(), 5);
        least.pass(1);
        Due.rows(least, 1, 0, 30, 30, 30, 2);
        DUE.is("not so now", least.judge(), 0);
    }

    private static SmellHowLong aged(int age, String more) {
        SmellHowLong x = Due.town("aw0;" + more);
        x.put(0, 1);
        Towns.goTo(x, age);
        return x;
    }

    /** "(30 tells that there is no TRACE, never an AGE)". */
    private static void thirtyIsNeverAnAge() {
        for (int age : new int[] {1, 28, 29, 30, 31, 99}) {
            SmellHowLong x = aged(age, "n1;");
            DUE.is("smelt(0, 1)", x.smelt(0, 1), age);
            Due.rows(x, 30, 0, 30, 30, 30, 30);
            DUE.is("30 of a trace " + age + " old", x.judge(), 0);
            Due.rows(x, Math.min(age, 29), 0, 30, 30, 30, 30);
            DUE.is("29 at most of a trace " + age + " old", x.judge(), age <= 29 ? -9 : 0);
        }
        SmellHowLong fifteen = aged(15, "w01;");
        DUE.is("smelt(0, 1)", fifteen.smelt(0, 1), 30);
        Due.rows(fifteen, 30, 0, 30, 30, 30, 30);
        DUE.is("30 by the wind", fifteen.judge(), 0);
        SmellHowLong none = aged(30, "n1;");
        none.rain();
        Due.rows(none, 30, 30, 30, 30, 30, 30);
        DUE.is("there is none", none.judge(), -9);
        Due.rows(none, 30, 30, 30, 30, 30, 0);
        DUE.is("0 is no trace's number where there is none", none.judge(), 5);
    }

    private static void judgedLeavesAllElse() {
        SmellHowLong x = BUSY.taken("judge()", y -> y.judge(), 0);
        DUE.is("count(5)", x.count(5), 0);
        SmellHowLong twin = Towns.busy();
        twin.clear();
        BUSY.sameSight("judge()", x, twin);
        DUE.is("town()", x.town(), twin.town());
        DUE.is("on()", x.on(), twin.on());
        BUSY.sameSight("judge(), then on()", x, twin);
    }

    /** "-4; -6 8; -3 the ROW has not six numbers." */
    private static void walkedWhen() {
        for (Bounds bounds : new Bounds[] {SIX, BUSY, NEW}) {
            for (int n : new int[] {-1, MIN}) {
                bounds.refused("walked(" + n + ")", x -> x.walked(n), -4);
            }
            for (int n : new int[] {9, 40, MAX}) {
                bounds.refused("walked(" + n + ")", x -> x.walked(n), -6);
            }
        }
        for (int n = 0; n <= 8; n++) {
            int minutes = n;
            BUSY.refused("walked(" + n + ")", x -> x.walked(minutes), -3);
            NEW.refused("walked(" + n + ")", x -> x.walked(minutes), -3);
        }
    }

    /** "-4 (either); -6 (8; n); -3." */
    private static void likeliestWhen() {
        for (Bounds bounds : new Bounds[] {SIX, BUSY, NEW}) {
            for (int n : new int[] {-1, 0, 8, 9, MIN, MAX}) {
                for (int k : new int[] {-1, 0, 8, 9, MIN, MAX}) {
                    if (n < 0 || k < 0) {
                        bounds.refused("likeliest(" + n + ", " + k + ")", x -> x.likeliest(n, k), -4);
                    } else if (n > 8 || k > n) {
                        bounds.refused("likeliest(" + n + ", " + k + ")", x -> x.likeliest(n, k), -6);
                    }
                }
            }
        }
        for (int n = 0; n <= 8; n++) {
            int minutes = n;
            SIX.refused("likeliest(n, n + 1)", x -> x.likeliest(minutes, minutes + 1), -6);
            BUSY.refused("likeliest(n, n + 1)", x -> x.likeliest(minutes, minutes + 1), -6);
            BUSY.refused("likeliest(n, n)", x -> x.likeliest(minutes, minutes), -3);
            NEW.refused("likeliest(n, 0)", x -> x.likeliest(minutes, 0), -3);
        }
    }

    private static void sureWhen() {
        for (Bounds bounds : new Bounds[] {SIX, BUSY, NEW}) {
            for (int n : new int[] {-1, 0, 8, 9, MIN, MAX}) {
                for (int k : new int[] {-1, 0, 8, 9, MIN, MAX}) {
                    if (n < 0 || k < 0) {
                        bounds.refused("sure(" + n + ", " + k + ")", x -> x.sure(n, k), -4);
                    } else if (n > 8 || k > n) {
                        bounds.refused("sure(" + n + ", " + k + ")", x -> x.sure(n, k), -6);
                    }
                }
            }
        }
        for (int n = 0; n <= 8; n++) {
            int minutes = n;
            SIX.refused("sure(n, n + 1)", x -> x.sure(minutes, minutes + 1), -6);
            BUSY.refused("sure(n, n + 1)", x -> x.sure(minutes, minutes + 1), -6);
            BUSY.refused("sure(n, n)", x -> x.sure(minutes, minutes), -3);
            NEW.refused("sure(n, 0)", x -> x.sure(minutes, 0), -3);
        }
    }

    /** "-3 the ROW has not six numbers": fewer or more. */
    private static void sixNumbersAlone() {
        for (int length = 0; length <= 12; length++) {
            int l = length;
            Bounds bounds = new Bounds(DUE, () -> row(l, 0));
            if (l == 6) {
                bounds.still("walked(0) of " + l, x -> x.walked(0), 1);
                bounds.still("likeliest(0, 0) of " + l, x -> x.likeliest(0, 0), 0);
                bounds.still("sure(0, 0) of " + l, x -> x.sure(0, 0), 1);
            } else {
                bounds.refused("walked(0) of " + l, x -> x.walked(0), -3);
                bounds.refused("likeliest(0, 0) of " + l, x -> x.likeliest(0, 0), -3);
                bounds.refused("sure(0, 0) of " + l, x -> x.sure(0, 0), -3);
                bounds.refused("walked(9) of " + l, x -> x.walked(9), -6);
                bounds.refused("likeliest(9, -1) of " + l, x -> x.likeliest(9, -1), -4);
                bounds.refused("sure(-1, 9) of " + l, x -> x.sure(-1, 9), -4);
            }
        }
    }

    /** "(the ROW stays)". */
    private static void theRowStays() {
        SIX.still("walked(2)", x -> x.walked(2), 1);
        SIX.still("walked(3)", x -> x.walked(3), 2);
        SIX.still("walked(0)", x -> x.walked(0), 0);
        SIX.still("walked(2) twice", x -> 10 * x.walked(2) + x.walked(2), 11);
        SIX.still("likeliest(2, 0)", x -> x.likeliest(2, 0), 0);
        SIX.still("likeliest(2, 2)", x -> x.likeliest(2, 2), 2);
        SIX.still("likeliest(1, 1), no way", x -> x.likeliest(1, 1), -9);
        SIX.still("sure(2, 1)", x -> x.sure(2, 1), 2);
        SIX.still("sure(3, 0)", x -> x.sure(3, 0), 1 + 2);
        SIX.still("sure(1, 1), no way", x -> x.sure(1, 1), 0);
    }

    /** n of 0: "left TRACES, the first at once". */
    private static void noMinute() {
        for (int room = 0; room <= 5; room++) {
            int[] numbers = {30, 30, 30, 30, 30, 30};
            numbers[room] = 0;
            int r = room;
            Bounds bounds = new Bounds(DUE, () -> row(6, numbers));
            bounds.still("walked(0) in " + r, x -> x.walked(0), 1);
            bounds.still("likeliest(0, 0) in " + r, x -> x.likeliest(0, 0), r);
            bounds.still("sure(0, 0) in " + r, x -> x.sure(0, 0), 1 << r);
            bounds.still("walked(8) in " + r, x -> x.walked(8), 1);
            bounds.still("likeliest(8, 8) in " + r, x -> x.likeliest(8, 8), r);
            bounds.still("sure(8, 0) in " + r, x -> x.sure(8, 0), 1 << r);
        }
        Bounds none = new Bounds(DUE, () -> row(6));
        Bounds two = new Bounds(DUE, () -> row(6, 0, 0));
        for (int n = 0; n <= 8; n++) {
            int minutes = n;
            none.still("no trace at all", x -> x.walked(minutes), 0);
            none.still("no trace at all", x -> x.likeliest(minutes, 0), -9);
            none.still("no trace at all", x -> x.sure(minutes, minutes), 0);
            two.still("in two rooms at last", x -> x.walked(minutes), 0);
            two.still("in two rooms at last", x -> x.likeliest(minutes, minutes), -9);
            two.still("in two rooms at last", x -> x.sure(minutes, 0), 0);
        }
    }

    private static void oneMinute() {
        Bounds path = new Bounds(DUE, () -> townAndRow("p05;", 1, 30, 30, 30, 30, 0));
        path.still("from 0 to 5", x -> x.walked(1), 1);
        path.still("from 0 to 5", x -> x.likeliest(1, 0), 0);
        path.still("from 0 to 5", x -> x.likeliest(1, 1), 5);
        path.still("from 0 to 5, no minute", x -> x.walked(0), 0);
        Bounds noPath = new Bounds(DUE, () -> townAndRow("p04;", 1, 30, 30, 30, 30, 0));
        noPath.still("no path", x -> x.walked(1), 0);
        noPath.still("no path", x -> x.walked(8), 0);
        Bounds takenBack = new Bounds(DUE, () -> townAndRow("p05;p50;", 1, 30, 30, 30, 30, 0));
        takenBack.still("a path told again", x -> x.walked(1), 0);
        // A gap: nobody was anywhere a minute ago.
        Bounds gap = new Bounds(DUE, () -> townAndRow("p05;", 2, 30, 30, 30, 30, 0));
        gap.still("in 5 a minute ago, too", x -> x.walked(2), 1);
        gap.still("in 5 a minute ago, too", x -> x.sure(2, 1), 32);
        gap.still("nowhere else", x -> x.walked(1), 0);
    }

    /** "AGES .. (0 .. 20; 30: none ..": n is 8 at most, so of these none above n fits. */
    private static void agesOfARow() {
        for (int age = 1; age <= 29; age++) {
            int a = age;
            Bounds bounds = new Bounds(DUE, () -> townAndRow("p01;", 0, a, 30, 30, 30, 30));
            for (int n = 0; n <= 8; n++) {
                int minutes = n;
                // In 1 a minutes ago at last, and ahead of it in 0 or 1 as he liked.
                int want = a > n ? 0 : 1 << (n - a);
                bounds.still("a trace " + a + " old behind " + n, x -> x.walked(minutes), want);
            }
            bounds.still("a trace " + a + " old", x -> x.likeliest(8, 0), a > 8 ? -9 : a == 8 ? 1 : 0);
            bounds.still("a trace " + a + " old", x -> x.sure(8, 0), a > 8 ? 0 : a == 8 ? 2 : 3);
        }
    }

    /** "each by a PATH or staying, from any ROOM". */
    private static void fromAnyRoomByAPathOrStaying() {
        Bounds line = new Bounds(DUE, () -> townAndRow("p01;p12;p23;p34;p45;", 5, 4, 3, 2, 1, 0));
        line.still("walked(5)", x -> x.walked(5), 1);
        line.still("from 0 or 1", x -> x.walked(6), 2);
        line.still("from 0, 1 or 2", x -> x.sure(7, 0), 7);
        line.still("0 0, 0 1, 1 0, 1 1 or 2 1", x -> x.walked(7), 5);
        line.still("walked(4)", x -> x.walked(4), 0);
        for (int k = 0; k <= 5; k++) {
            int moment = k;
            line.still("likeliest(5, " + k + ")", x -> x.likeliest(5, moment), moment);
            line.still("sure(5, " + k + ")", x -> x.sure(5, moment), 1 << moment);
        }
        Bounds back = new Bounds(DUE, () -> townAndRow("p01;p12;p23;p34;p45;", 0, 1, 2, 3, 4, 5));
        back.still("the other way", x -> x.likeliest(5, 0), 5);
        back.still("the other way", x -> x.walked(8), waysIntoLineOfThree());
    }

    /** The three rooms ahead of 5, the end of a line of six: each a room beside the next one, or the same. */
    private static int waysIntoLineOfThree() {
        int ways = 0;
        for (int last = 4; last <= 5; last++) {
            for (int second = last - 1; second <= Math.min(5, last + 1); second++) {
                for (int first = second - 1; first <= Math.min(5, second + 1); first++) {
                    ways++;
                }
            }
        }
        return ways;
    }

    private static void mostWays() {
        Bounds all = new Bounds(DUE, () -> townAndRow(Towns.ALL_PATHS, 0, 1, 2, 3, 4, 5));
        all.still("walked(5)", x -> x.walked(5), 1);
        all.still("walked(8)", x -> x.walked(8), 6 * 6 * 6);
        all.still("likeliest(8, 0)", x -> x.likeliest(8, 0), 0);
        all.still("sure(8, 0)", x -> x.sure(8, 0), 63);
        all.still("sure(8, 2)", x -> x.sure(8, 2), 63);
        all.still("sure(8, 3)", x -> x.sure(8, 3), 32);
        Bounds two = new Bounds(DUE, () -> townAndRow(Towns.ALL_PATHS, 0, 1, 30, 30, 30, 30));
        two.still("walked(8)", x -> x.walked(8), 128);
    }

    /** "in most of them, of several the least (-9)". */
    private static void likeliestOfSeveral() {
        Bounds even = new Bounds(DUE, () -> townAndRow("p45;", 30, 30, 30, 30, 1, 0));
        even.still("4 or 5, of two ways one each", x -> x.likeliest(2, 0), 4);
        even.still("4 or 5", x -> x.sure(2, 0), 16 + 32);
        even.still("4 for sure", x -> x.likeliest(2, 1), 4);
        even.still("5 for sure", x -> x.likeliest(2, 2), 5);
        Bounds most = new Bounds(DUE, () -> townAndRow("p15;p25;", 30, 1, 2, 30, 30, 0));
        most.still("no path from 2 to 1", x -> x.walked(3), 0);
        Bounds middle = new Bounds(DUE, () -> townAndRow("p15;p25;", 30, 0, 2, 30, 30, 1));
        middle.still("walked(4)", x -> x.walked(4), 5);
        // Ahead of 2, 5, 1 are 2 2, 5 2, 1 5, 2 5 or 5 5: at first he is in 1 once, in 2 and 5 twice.
        middle.still("the least of 2 and 5", x -> x.likeliest(4, 0), 2);
        middle.still("in most of them", x -> x.likeliest(4, 1), 5);
        middle.still("in some", x -> x.sure(4, 0), 2 + 4 + 32);
        middle.still("in some", x -> x.sure(4, 1), 4 + 32);
    }

    /** "(a WALKER, WIND 0)": neither WIND nor WALKERS, TRACES or NOSE of the TOWN are of matter. */
    private static void whateverTheTownIs() {
        String paths = "p01;p12;p23;";
        SmellHowLong plain = townAndRow(paths, 1, 0, 2, 30, 30, 30);
        SmellHowLong full = townAndRow(paths + "w03;w13;w23;n9;r0;aw0;as1;af2;ac3;", 1, 0, 2, 30, 30, 30);
        full.pass(7);
        for (int n = 0; n <= 8; n++) {
            DUE.is("walked(" + n + ")", full.walked(n), plain.walked(n));
            for (int k = 0; k <= n; k++) {
                DUE.is("likeliest(" + n + ", " + k + ")", full.likeliest(n, k), plain.likeliest(n, k));
                DUE.is("sure(" + n + ", " + k + ")", full.sure(n, k), plain.sure(n, k));
            }
        }
    }
}
