/** The bounds that the document names of seeds, of the image and of what is counted: promises 26 to 29, REFUSALS. */
public final class BoundsOfImagesTest {
    private static final Due DUE = new Due("BoundsOfImagesTest");
    private static final Bounds BUSY = new Bounds(DUE, Towns::busy);
    private static final Bounds NEW = new Bounds(DUE, SmellHowLong::new);
    private static final Bounds FULL = new Bounds(DUE, Towns::full);
    private static final int MIN = Integer.MIN_VALUE;
    private static final int MAX = Integer.MAX_VALUE;

    public static void main(String[] args) {
        seedsWhereAndHowLong();
        seedsOfNobody();
        drawsOfAnySeed();
        aDrawForEachWalkerAheadOfEachMinute();
        seedsAboveMinute99();
        onFromNoImage();
        imagesOfMinutes();
        onFromTheImageTwice();
        theLastImageIsTheOne();
        allThatIsTold();
        notTheRowLettersRefusals();
        countedAtFirst();
        countedAtMost();
        countedOfAnotherWhat();
        refusalsByNumber();
        refusalsInTheirOrder();
        DUE.end();
    }

    /** "-1; -4; -6 30." */
    private static void seedsWhereAndHowLong() {
        for (int room : new int[] {-1, 6, MIN, MAX}) {
            for (int n : new int[] {0, 1, 30, 31, MIN, MAX}) {
                BUSY.refused("seeds(" + n + ", 1, " + room + ")", x -> x.seeds(n, 1, room), -1);
            }
        }
        for (int room : new int[] {0, 5}) {
            for (int n : new int[] {0, -1, MIN}) {
                BUSY.refused("seeds(" + n + ", 1, " + room + ")", x -> x.seeds(n, 1, room), -4);
            }
            for (int n : new int[] {31, 40, MAX}) {
                BUSY.refused("seeds(" + n + ", 1, " + room + ")", x -> x.seeds(n, 1, room), -6);
            }
        }
    }

    private static void seedsOfNobody() {
        for (int n : new int[] {1, 2, 29, 30}) {
            for (int z : new int[] {0, 1, -1, MIN, MAX}) {
                for (int room : new int[] {0, 5}) {
                    NEW.still("seeds(" + n + ", " + z + ", " + room + ")", x -> x.seeds(n, z, room), 0);
                }
            }
        }
    }

    /** What z becomes: "z times 1664525 and 1013904223 (an int)", by the low 32 bits of a long. */
    private static int next(int z) {
        return (int) (z * 1664525L + 1013904223L);
    }

    /** "(z without its sign's bit by 256, cut) modulo m" of 6, by the bits 8 to 30 alone. */
    private static int drawn(int z) {
        return (z >>> 8 & 0x7fffff) % 6;
    }

    /** "with a seed z": any int, 0 and those of a sign, too; the numbers go round. */
    private static void drawsOfAnySeed() {
        Bounds one = new Bounds(DUE, () -> {
            SmellHowLong x = Due.town("aw0;");
            x.rain();
            return x;
        });
        for (int z : new int[] {0, 1, 2, -1, -2, MIN, MIN + 1, MAX, MAX - 1, 255, 256, 1013904223, -1013904223}) {
            int came = drawn(next(z));
            for (int room = 0; room <= 5; room++) {
                int r = room;
                one.still("seeds(1, " + z + ", " + r + ")", x -> x.seeds(1, z, r), r == came ? 1 : 0);
            }
        }
        // By hand: 0 becomes 1013904223, by 256 are 3960563, which is 5 more than six times 660093.
        one.still("seeds(1, 0, 5)", x -> x.seeds(1, 0, 5), 1);
        // By hand: -1 becomes 1012239698, by 256 are 3954061, which is 1 more than six times 659010.
        one.still("seeds(1, -1, 1)", x -> x.seeds(1, -1, 1), 1);
    }

    /** The same by puts and minutes: "ahead of each each WALKER by numbers is put into a ROOM (a DRAW below 6)". */
    private static void aDrawForEachWalkerAheadOfEachMinute() {
        for (int z : new int[] {0, 7, -7, MIN, MAX}) {
            for (int n : new int[] {1, 2, 3, 29, 30}) {
                SmellHowLong put = Towns.busy();
                int seed = z;
                for (int minute = 0; minute < n; minute++) {
                    for (int walker = 0; walker < 3; walker++) {
                        seed = next(seed);
                        put.put(walker, drawn(seed));
                    }
                    put.pass(1);
                }
                for (int room = 0; room <= 5; room++) {
                    int r = room;
                    String call = "seeds(" + n + ", " + z + ", " + r + ")";
                    BUSY.still(call, x -> x.seeds(n, z, r), put.smelt(r, 3));
                }
            }
        }
    }

    /** n is 1 .. 30 in each MINUTE: in mind they go on above 99. */
    private static void seedsAboveMinute99() {
        Bounds late = new Bounds(DUE, () -> Towns.at(99, "ac5;aw0;"));
        int z = next(next(4));
        for (int room = 0; room <= 5; room++) {
            int r = room;
            int want = (r == 0 ? 1 : 0) + (r == drawn(z) && r != 0 ? 1 : 0);
            late.still("seeds(1, 4, " + r + ")", x -> x.seeds(1, 4, r), want);
        }
        late.refused("seeds(31, 4, 0)", x -> x.seeds(31, 4, 0), -6);
        late.refused("seeds(0, 4, 0)", x -> x.seeds(0, 4, 0), -4);
        Bounds nobody = new Bounds(DUE, () -> Towns.at(99, "ac5;"));
        nobody.still("seeds(30, 4, 0)", x -> x.seeds(30, 4, 0), 0);
    }

    /** "-3 there is none." */
    private static void onFromNoImage() {
        NEW.refused("on()", x -> x.on(), -3);
        FULL.refused("on()", x -> x.on(), -3);
        SmellHowLong x = new SmellHowLong();
        x.on();
        x.on();
        DUE.refusals(x, 0, 0, 2, 0, 0, 0);
        DUE.is("image()", x.image(), 0);
        DUE.is("on()", x.on(), 0);
        DUE.refusals(x, 0, 0, 2, 0, 0, 0);
    }

    /** "THE IMAGE is taken: MINUTE."; "ON from it: MINUTE." */
    private static void imagesOfMinutes() {
        for (int minute : new int[] {0, 1, 40, 98, 99}) {
            Bounds bounds = new Bounds(DUE, () -> Towns.at(minute, "p01;aw01;"));
            SmellHowLong x = bounds.taken("image() in " + minute, y -> y.image(), minute);
            bounds.sameSight("image() in " + minute, x, Towns.at(minute, "p01;aw01;"));
            DUE.is("on()", x.on(), minute);
            bounds.sameSight("on() in " + minute, x, Towns.at(minute, "p01;aw01;"));
        }
        SmellHowLong back = new SmellHowLong();
        back.image();
        Towns.goTo(back, 99);
        DUE.is("pass(1) in 99", back.pass(1), -6);
        DUE.is("on()", back.on(), 0);
        DUE.is("pass(40) from 0", back.pass(40), 40);
    }

    private static void onFromTheImageTwice() {
        SmellHowLong x = Towns.busy();
        SmellHowLong then = Due.town("p01;p12;p23;w12;w33;r1;r4;n3;aw0123;as1;af2;");
        then.pass(2);
        for (int v = 0; v < 4; v++) {
            then.row(v);
        }
        Towns.letters(then, "p0");
        for (int again = 0; again < 3; again++) {
            DUE.is("on()", x.on(), 2);
            BUSY.sameSight("on()", x, then);
            x.pass(5);
            x.put(0, 5);
            x.wind(0, 3);
            x.rain();
        }
    }

    private static void theLastImageIsTheOne() {
        SmellHowLong x = Due.town("aw0;");
        for (int minute = 0; minute <= 5; minute++) {
            DUE.is("image()", x.image(), minute);
            DUE.is("pass(1)", x.pass(1), minute + 1);
            DUE.is("on()", x.on(), minute);
            x.pass(1);
        }
        DUE.is("on()", x.on(), 5);
    }

    /** "all that is told, TRACES, MINUTE": whatever changed behind it is as it was then. */
    private static void allThatIsTold() {
        String[] texts = {"p01;", "p34;", "w13;", "r1;", "r3;", "n9;", "ab3210;", "p01;p12;p23;w10;w30;r1;r4;n1;ac0;"};
        for (String text : texts) {
            SmellHowLong x = Towns.busyWithoutLetters();
            x.image();
            if (Due.tell(x, text) < 1) {
                DUE.is("the test's own text " + text, 0, 1);
            }
            x.on();
            BUSY.sameSight("on() behind " + text, x, Towns.busyWithoutLetters());
        }
        SmellHowLong called = Towns.busyWithoutLetters();
        called.image();
        called.put(0, 4);
        called.wind(5, 2);
        called.nose(1);
        called.pass(40);
        called.rain();
        DUE.is("on()", called.on(), 6);
        BUSY.sameSight("on() behind calls", called, Towns.busyWithoutLetters());
        // The plans go on as then, too.
        for (int n = 0; n <= 40; n++) {
            for (int walker = 0; walker < 3; walker++) {
                DUE.is("behind(" + walker + ", " + n + ")", called.behind(walker, n), Towns.busy().behind(walker, n));
            }
        }
        SmellHowLong none = new SmellHowLong();
        none.image();
        Due.tell(none, "p01;w13;r1;n9;aw0123450;al1234;as20;af30;");
        none.on();
        NEW.sameSight("on() to nothing", none, new SmellHowLong());
        DUE.is("four more", Due.tell(none, "ac0;ac1;ac2;ac301;"), 4);
        DUE.is("count(4)", none.count(4), 0);
        int[] plans = {0, 0, 0, 2};
        for (int walker = 0; walker <= 3; walker++) {
            DUE.is("walker(" + walker + ", 2)", none.walker(walker, 2), plans[walker]);
        }
    }

    /** "(not the ROW, letters, REFUSALS)". */
    private static void notTheRowLettersRefusals() {
        SmellHowLong x = new SmellHowLong();
        x.row(1);
        x.letter('n');
        x.room(6, 0);
        x.image();
        x.row(2);
        Towns.letters(x, "7;");
        x.room(6, 0);
        x.nose(10);
        DUE.is("on()", x.on(), 0);
        DUE.is("count(5)", x.count(5), 2);
        DUE.is("count(6)", x.count(6), 3);
        DUE.refusals(x, 2, 0, 0, 0, 0, 1);
        DUE.is("town()", x.town(), 1);
        DUE.is("count(3)", x.count(3), 7);
        DUE.is("clear()", x.clear(), 2);
        DUE.is("on()", x.on(), 0);
        DUE.is("count(3)", x.count(3), 1);
        DUE.is("count(5)", x.count(5), 0);
        DUE.is("count(6)", x.count(6), 0);
        DUE.refusals(x, 2, 0, 0, 0, 0, 1);
    }

    private static void countedAtFirst() {
        int[] wants = {0, 0, 0, 1, 0, 0, 0};
        for (int what = 0; what <= 6; what++) {
            int w = what;
            NEW.still("count(" + w + ")", x -> x.count(w), wants[w]);
        }
        for (int what = 11; what <= 16; what++) {
            int w = what;
            NEW.still("count(" + w + ")", x -> x.count(w), 0);
        }
    }

    private static SmellHowLong atMost() {
        SmellHowLong x = Due.town(Towns.ALL_PATHS + "n9;aw0;as0;aw0;as0;");
        Due.tell(x, Towns.ALL_PATHS);
        for (int room = 1; room <= 5; room++) {
            for (int walker = 0; walker < 4; walker++) {
                x.put(walker, room);
            }
            x.pass(1);
        }
        Due.tell(x, Towns.ALL_PATHS);
        Towns.goTo(x, 99);
        for (int v = 0; v < 12; v++) {
            x.row(v);
        }
        Towns.letters(x, "x".repeat(96));
        return x;
    }

    /** "0 WALKERS, 1 PATHS, 2 MINUTE, 3 NOSE, 4 TRACES, 5 in the ROW, 6 letters": the most of each. */
    private static void countedAtMost() {
        int[] wants = {4, 15, 99, 9, 24, 12, 96};
        SmellHowLong x = atMost();
        for (int what = 0; what <= 6; what++) {
            DUE.is("count(" + what + ")", x.count(what), wants[what]);
        }
        DUE.is("a letter more", x.letter('x'), -6);
        DUE.is("a number more", x.row(0), -6);
        DUE.is("a minute more", x.pass(1), -6);
        DUE.is("a nose more", x.nose(10), -6);
        for (int what = 0; what <= 6; what++) {
            DUE.is("count(" + what + ")", x.count(what), wants[what]);
        }
        DUE.refusals(x, 0, 0, 0, 0, 0, 4);
    }

    /** "-9 for another what", which is no REFUSAL. */
    private static void countedOfAnotherWhat() {
        for (int what : new int[] {-1, -9, -16, 7, 8, 9, 10, 17, 18, 100, MIN, MAX, MAX - 10, MIN + 10}) {
            NEW.still("count(" + what + ")", x -> x.count(what), -9);
            BUSY.still("count(" + what + ")", x -> x.count(what), -9);
        }
    }

    /** "11 .. 16 REFUSALS -1 .. -6": each is counted by its own number, and there is no -5. */
    private static void refusalsByNumber() {
        SmellHowLong x = Towns.busy();
        for (int times = 1; times <= 20; times++) {
            x.told(6);
            x.smelt(0, 4);
            x.walked(0);
            x.scented(-1);
            x.scented(41);
            DUE.refusals(x, times, times, times, times, 0, times);
        }
        // A FAULT, -9 and a count of a refusal are none.
        x.town();
        x.age(0, 5);
        x.across(0, 5);
        x.count(17);
        x.judge();
        x.clear();
        x.rain();
        x.image();
        DUE.refusals(x, 20, 20, 20, 20, 0, 20);
    }

    /** "the first that fits in the order in which it tells them": all that do not fit at once. */
    private static void refusalsInTheirOrder() {
        BUSY.refused("room(6, 3)", x -> x.room(6, 3), -1);
        BUSY.refused("walker(3, 4)", x -> x.walker(3, 4), -1);
        BUSY.refused("put(3, 6)", x -> x.put(3, 6), -1);
        BUSY.refused("wind(6, -1)", x -> x.wind(6, -1), -1);
        BUSY.refused("wind(6, 4)", x -> x.wind(6, 4), -1);
        BUSY.refused("age(3, 6)", x -> x.age(3, 6), -1);
        BUSY.refused("smelt(6, 4)", x -> x.smelt(6, 4), -1);
        BUSY.refused("behind(3, -1)", x -> x.behind(3, -1), -1);
        BUSY.refused("freshest(6, 41)", x -> x.freshest(6, 41), -1);
        BUSY.refused("meet(3, 3)", x -> x.meet(3, 3), -1);
        BUSY.refused("walked(-1)", x -> x.walked(-1), -4);
        BUSY.refused("walked(9)", x -> x.walked(9), -6);
        BUSY.refused("likeliest(9, -1)", x -> x.likeliest(9, -1), -4);
        BUSY.refused("sure(9, 10)", x -> x.sure(9, 10), -6);
        BUSY.refused("seeds(31, 0, 6)", x -> x.seeds(31, 0, 6), -1);
    }
}
