/** Promises 17 to 19 and 23 to 25: the row, the ways that fit it, and how it is judged. */
public final class WalksTest {
    private static final Due DUE = new Due("WalksTest");

    public static void main(String[] args) {
        row();
        judge();
        clear();
        ways();
        refusalsOfWays();
        fewNumbersFit();
        DUE.end();
    }

    private static void row() {
        SmellHowLong x = new SmellHowLong();
        DUE.is("row(0)", x.row(0), 1);
        DUE.is("row(30)", x.row(30), 2);
        DUE.is("row(29)", x.row(29), 3);
        DUE.is("row(-1)", x.row(-1), -4);
        DUE.is("row(31)", x.row(31), -6);
        DUE.is("count(5)", x.count(5), 3);
        for (int i = 4; i <= 12; i++) {
            DUE.is("row(5)", x.row(5), i);
        }
        DUE.is("row(5)", x.row(5), -6);
        DUE.is("row(-1)", x.row(-1), -4);
        DUE.is("count(5)", x.count(5), 12);
        DUE.refusals(x, 0, 0, 0, 2, 0, 2);
    }

    private static void judged(SmellHowLong x, int want, int... numbers) {
        Due.rows(x, numbers);
        DUE.is("judge()", x.judge(), want);
        DUE.is("count(5)", x.count(5), 0);
    }

    private static void judge() {
        SmellHowLong x = Due.town("aw1;aw3;as1;");
        x.put(0, 0);
        x.put(2, 5);
        x.pass(5);
        // Least ages: 0 in 0, 2 in 1, none in 2, 0 in 3, none in 4, 0 in 5.
        judged(x, -9, 0, 2, 30, 0, 30, 0);
        judged(x, 0, 30, 2, 30, 0, 30, 0);
        judged(x, 0, 1, 2, 30, 0, 30, 0);
        judged(x, 1, 0, 5, 30, 0, 30, 0);
        judged(x, 2, 0, 2, 0, 0, 30, 0);
        judged(x, 5, 0, 2, 30, 0, 30, 30);
        judged(x, 5, 0, 2, 30, 0, 30, 1);
        judged(x, 0);
        judged(x, 3, 0, 2, 30);
        judged(x, 2, 0, 2, 29);
        judged(x, 5, 0, 2, 30, 0, 30);
        judged(x, 6, 0, 2, 30, 0, 30, 0, 0);
        judged(x, 6, 0, 2, 30, 0, 30, 0, 30, 30, 30, 30, 30, 30);
        judged(x, 4, 0, 2, 30, 0, 4, 0, 7);
        x.pass(40);
        DUE.is("an age", x.age(2, 1), 22);
        judged(x, -9, 0, 22, 30, 0, 30, 0);
        x.pass(15);
        DUE.is("an age of 30", x.age(2, 1), 30);
        judged(x, 1, 0, 30, 30, 0, 30, 0);
        DUE.refusals(x, 0, 0, 0, 0, 0, 0);
    }

    private static void clear() {
        SmellHowLong x = new SmellHowLong();
        Due.rows(x, 1, 2, 3);
        DUE.is("clear()", x.clear(), 3);
        DUE.is("clear()", x.clear(), 0);
        DUE.is("count(5)", x.count(5), 0);
        DUE.is("row(4)", x.row(4), 1);
    }

    private static void ways() {
        SmellHowLong x = Due.town("p01;p12;p02;");
        Due.rows(x, 0, 30, 30, 30, 30, 30);
        DUE.is("walked(0)", x.walked(0), 1);
        DUE.is("walked(8)", x.walked(8), 1);
        DUE.is("likeliest(8, 4)", x.likeliest(8, 4), 0);
        DUE.is("sure(8, 4)", x.sure(8, 4), 1);
        Due.rows(x, 1, 0, 30, 30, 30, 30);
        DUE.is("walked(0)", x.walked(0), 0);
        DUE.is("walked(1)", x.walked(1), 1);
        // Behind him 0 or 1, then 0, then 1.
        DUE.is("walked(2)", x.walked(2), 2);
        DUE.is("walked(3)", x.walked(3), 4);
        DUE.is("likeliest(2, 0)", x.likeliest(2, 0), 0);
        DUE.is("likeliest(2, 1)", x.likeliest(2, 1), 0);
        DUE.is("likeliest(2, 2)", x.likeliest(2, 2), 1);
        DUE.is("sure(2, 0)", x.sure(2, 0), 3);
        DUE.is("sure(2, 1)", x.sure(2, 1), 1);
        DUE.is("sure(2, 2)", x.sure(2, 2), 2);
        Due.rows(x, 2, 0, 1, 30, 30, 30);
        DUE.is("sure(3, 0)", x.sure(3, 0), 7);
        DUE.is("likeliest(2, 2)", x.likeliest(2, 2), 1);
        DUE.is("walked(3)", x.walked(3), 3);
        DUE.is("sure(3, 1)", x.sure(3, 1), 1);
        DUE.is("sure(3, 2)", x.sure(3, 2), 4);
        DUE.is("walked(2)", x.walked(2), 1);
        Due.rows(x, 3, 0, 30, 30, 30, 30);
        DUE.is("walked(4)", x.walked(4), 2);
        DUE.is("the row stays", x.count(5), 6);

        // A room far off: by a path of 0, 1, 2, or nothing.
        SmellHowLong line = Due.town("p01;p12;");
        Due.rows(line, 1, 30, 0, 30, 30, 30);
        DUE.is("no path", line.walked(1), 0);
        DUE.is("likeliest(1, 0)", line.likeliest(1, 0), -9);
        DUE.is("sure(1, 0)", line.sure(1, 0), 0);
        Due.rows(line, 2, 1, 0, 30, 30, 30);
        DUE.is("walked(2)", line.walked(2), 1);
        DUE.is("walked(3)", line.walked(3), 2);
        // Ahead of 0, 1, 2 at last: 0 0, 0 1, 1 0, 1 1 or 2 1.
        DUE.is("walked(4)", line.walked(4), 5);
        DUE.is("likeliest(4, 0)", line.likeliest(4, 0), 0);
        DUE.is("likeliest(4, 1)", line.likeliest(4, 1), 1);
        DUE.is("sure(4, 0)", line.sure(4, 0), 7);
        DUE.is("sure(4, 1)", line.sure(4, 1), 3);
        DUE.is("likeliest(4, 2)", line.likeliest(4, 2), 0);
        DUE.is("wind is no matter", line.wind(0, 3), 0);
        DUE.is("walked(4)", line.walked(4), 5);
    }

    private static void fewNumbersFit() {
        SmellHowLong x = Due.town("p01;p02;p03;p04;p05;p12;p13;p14;p15;p23;p24;p25;p34;p35;p45;");
        Due.rows(x, 5, 4, 3, 2, 1, 0);
        DUE.is("walked(5)", x.walked(5), 1);
        DUE.is("walked(6)", x.walked(6), 6);
        DUE.is("walked(8)", x.walked(8), 216);
        DUE.is("likeliest(8, 0)", x.likeliest(8, 0), 0);
        DUE.is("sure(8, 2)", x.sure(8, 2), 63);
        DUE.is("sure(8, 3)", x.sure(8, 3), 1);
        DUE.is("walked(4)", x.walked(4), 0);
        Due.rows(x, 0, 0, 30, 30, 30, 30);
        DUE.is("two at once", x.walked(3), 0);
        Due.rows(x, 1, 30, 30, 30, 30, 30);
        DUE.is("nowhere at last", x.walked(3), 0);
        Due.rows(x, 30, 30, 30, 30, 30, 30);
        DUE.is("nowhere", x.walked(0), 0);
        DUE.is("sure(0, 0)", x.sure(0, 0), 0);
        DUE.is("likeliest(0, 0)", x.likeliest(0, 0), -9);
        Due.rows(x, 0, 9, 30, 30, 30, 30);
        DUE.is("too old", x.walked(8), 0);
        DUE.is("sure(8, 8)", x.sure(8, 8), 0);
        Due.rows(x, 0, 8, 30, 30, 30, 30);
        DUE.is("as old as can be", x.walked(8), 1);
        Due.rows(x, 0, 29, 30, 30, 30, 30);
        DUE.is("neither an age nor none", x.walked(8), 0);
        Due.rows(x, 0, 21, 30, 30, 30, 30);
        DUE.is("neither an age nor none", x.walked(8), 0);
    }

    private static void refusalsOfWays() {
        SmellHowLong x = new SmellHowLong();
        DUE.is("walked(-1)", x.walked(-1), -4);
        DUE.is("walked(9)", x.walked(9), -6);
        DUE.is("walked(0)", x.walked(0), -3);
        DUE.is("likeliest(9, -1)", x.likeliest(9, -1), -4);
        DUE.is("likeliest(-1, 9)", x.likeliest(-1, 9), -4);
        DUE.is("likeliest(9, 0)", x.likeliest(9, 0), -6);
        DUE.is("likeliest(3, 4)", x.likeliest(3, 4), -6);
        DUE.is("likeliest(3, 3)", x.likeliest(3, 3), -3);
        DUE.is("sure(9, -1)", x.sure(9, -1), -4);
        DUE.is("sure(-1, 9)", x.sure(-1, 9), -4);
        DUE.is("sure(9, 0)", x.sure(9, 0), -6);
        DUE.is("sure(3, 4)", x.sure(3, 4), -6);
        DUE.is("sure(3, 3)", x.sure(3, 3), -3);
        DUE.refusals(x, 0, 0, 3, 5, 0, 5);
        Due.rows(x, 0, 30, 30, 30, 30);
        DUE.is("five numbers", x.walked(0), -3);
        x.row(30);
        DUE.is("six numbers", x.walked(0), 1);
        DUE.is("six numbers", x.likeliest(0, 0), 0);
        DUE.is("six numbers", x.sure(0, 0), 1);
        DUE.is("six numbers", x.likeliest(0, 1), -6);
        x.row(30);
        DUE.is("seven numbers", x.walked(0), -3);
        DUE.is("seven numbers", x.likeliest(0, 0), -3);
        DUE.is("seven numbers", x.sure(0, 0), -3);
    }
}
