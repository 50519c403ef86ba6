/** The bounds that the document names of put, wind, nose, minutes and rain: promises 6 to 10, KINDS, A MINUTE. */
public final class BoundsOfMinutesTest {
    private static final Due DUE = new Due("BoundsOfMinutesTest");
    private static final Bounds BUSY = new Bounds(DUE, Towns::busy);
    private static final Bounds NEW = new Bounds(DUE, SmellHowLong::new);
    private static final Bounds FULL = new Bounds(DUE, Towns::full);
    private static final int MIN = Integer.MIN_VALUE;
    private static final int MAX = Integer.MAX_VALUE;
    private static final String ALL_ROOFS = "r0;r1;r2;r3;r4;r5;";

    public static void main(String[] args) {
        putWhomAndWhere();
        putLeavesNoTrace();
        windOfWhere();
        windOfNoughtTo3();
        noseOf1To9();
        minutesOf1To40();
        minuteNinetyNine();
        manyMinutesAreAsOneByOne();
        plansGoRound();
        withoutAPlanOrAPath();
        lightOnesLeaveWhereTheyStay();
        cleanOnesLeaveNone();
        strongAgesAreCut();
        agesOfEachWind();
        followersWhoSmellNone();
        followersOfSeveral();
        backwardOnesOfSeveral();
        allGoByTracesAsTheyAre();
        theLastTraceIsTheOne();
        rainOnNothing();
        rainUnderRoofs();
        rainOnAll();
        DUE.end();
    }

    /** "-1 either." */
    private static void putWhomAndWhere() {
        for (int walker : new int[] {-1, 3, 4, MIN, MAX}) {
            BUSY.refused("put(" + walker + ", 0)", x -> x.put(walker, 0), -1);
        }
        for (int room : new int[] {-1, 6, MIN, MAX}) {
            BUSY.refused("put(0, " + room + ")", x -> x.put(0, room), -1);
            BUSY.refused("put(3, " + room + ")", x -> x.put(3, room), -1);
        }
        NEW.refused("put(0, 0)", x -> x.put(0, 0), -1);
        FULL.refused("put(4, 0)", x -> x.put(4, 0), -1);
        FULL.refused("put(3, 6)", x -> x.put(3, 6), -1);
        DUE.is("walker(3, 1)", FULL.taken("put(3, 5)", x -> x.put(3, 5), 3).walker(3, 1), 5);
        DUE.is("walker(3, 1)", FULL.taken("put(3, 0)", x -> x.put(3, 0), 3).walker(3, 1), 0);
        DUE.is("walker(0, 1)", FULL.taken("put(0, 5)", x -> x.put(0, 5), 0).walker(0, 1), 5);
        FULL.still("put(0, 0)", x -> x.put(0, 0), 0);
        FULL.still("put(3, 3)", x -> x.put(3, 3), 3);
    }

    /** "(he leaves no TRACE by it)". */
    private static void putLeavesNoTrace() {
        for (int walker = 0; walker < 4; walker++) {
            int w = walker;
            SmellHowLong x = FULL.taken("put(" + w + ", 5)", y -> y.put(w, 5), w);
            DUE.is("age(" + w + ", 5)", x.age(w, 5), -9);
            DUE.is("age(" + w + ", " + w + ")", x.age(w, w), w == 3 ? -9 : 0);
            DUE.is("count(4)", x.count(4), 3);
            DUE.is("put back", x.put(w, w), 5);
            Bounds unmoved = new Bounds(DUE, Towns::full);
            unmoved.sameSight("put back", x, Towns.full());
        }
        SmellHowLong again = Towns.full();
        again.pass(2);
        again.put(0, 1);
        DUE.is("no fresher one where he is put", again.smelt(1, 1), 0);
        DUE.is("nor an older one", again.age(0, 1), -9);
    }

    /** "-1; -4; -6 3." */
    private static void windOfWhere() {
        for (int room : new int[] {-1, 6, MIN, MAX}) {
            for (int v : new int[] {0, -1, 4, MIN, MAX}) {
                BUSY.refused("wind(" + room + ", " + v + ")", x -> x.wind(room, v), -1);
            }
        }
        NEW.taken("wind(0, 3)", x -> x.wind(0, 3), 0);
        NEW.taken("wind(5, 3)", x -> x.wind(5, 3), 0);
    }

    /** "WIND (0 .. 3: 0 at first)". */
    private static void windOfNoughtTo3() {
        for (int room = 0; room <= 5; room++) {
            int r = room;
            for (int v = 0; v <= 3; v++) {
                int wind = v;
                SmellHowLong x = NEW.taken("wind(" + r + ", " + v + ")", y -> y.wind(r, wind), 0);
                DUE.is("room(" + r + ", 0)", x.room(r, 0), wind);
                DUE.is("wind(" + r + ", 0)", x.wind(r, 0), wind);
                DUE.is("room(" + r + ", 0)", x.room(r, 0), 0);
                DUE.refusals(x, 0, 0, 0, 0, 0, 0);
            }
            for (int v : new int[] {-1, MIN}) {
                BUSY.refused("wind(" + r + ", " + v + ")", x -> x.wind(r, v), -4);
            }
            for (int v : new int[] {4, MAX}) {
                BUSY.refused("wind(" + r + ", " + v + ")", x -> x.wind(r, v), -6);
            }
        }
        BUSY.still("the wind that it is", x -> x.wind(3, 3), 3);
        BUSY.still("the wind that it is", x -> x.wind(0, 0), 0);
    }

    /** "NOSE (1 .. 9: 1 at first)"; "-4; -6 9." */
    private static void noseOf1To9() {
        for (int v : new int[] {0, -1, MIN}) {
            BUSY.refused("nose(" + v + ")", x -> x.nose(v), -4);
            NEW.refused("nose(" + v + ")", x -> x.nose(v), -4);
        }
        for (int v : new int[] {10, 11, MAX}) {
            BUSY.refused("nose(" + v + ")", x -> x.nose(v), -6);
            NEW.refused("nose(" + v + ")", x -> x.nose(v), -6);
        }
        for (int v = 1; v <= 9; v++) {
            int nose = v;
            SmellHowLong x = NEW.taken("nose(" + v + ")", y -> y.nose(nose), 1);
            DUE.is("count(3)", x.count(3), nose);
            DUE.is("nose(1)", x.nose(1), nose);
        }
        BUSY.still("the nose that it is", x -> x.nose(3), 3);
    }

    /** "n MINUTES (1 .. 40) go by: MINUTE. -4; -6 (40; ..". */
    private static void minutesOf1To40() {
        for (int n : new int[] {0, -1, -40, MIN}) {
            BUSY.refused("pass(" + n + ")", x -> x.pass(n), -4);
            NEW.refused("pass(" + n + ")", x -> x.pass(n), -4);
        }
        for (int n : new int[] {41, 99, 100, MAX}) {
            BUSY.refused("pass(" + n + ")", x -> x.pass(n), -6);
            NEW.refused("pass(" + n + ")", x -> x.pass(n), -6);
        }
        for (int n : new int[] {1, 2, 39, 40}) {
            DUE.is("count(2)", NEW.taken("pass(" + n + ")", x -> x.pass(n), n).count(2), n);
            DUE.is("count(2)", BUSY.taken("pass(" + n + ")", x -> x.pass(n), 6 + n).count(2), 6 + n);
        }
    }

    private static Bounds at(int minute) {
        return new Bounds(DUE, () -> Towns.at(minute, "p01;p12;w12;n2;aw0120;al2;af1;as312;"));
    }

    /** "MINUTE (0 .. 99: 0 at first)"; "-6 (..; above 99)." */
    private static void minuteNinetyNine() {
        DUE.is("count(2)", at(59).taken("pass(40)", x -> x.pass(40), 99).count(2), 99);
        at(60).refused("pass(40)", x -> x.pass(40), -6);
        at(60).refused("pass(41)", x -> x.pass(41), -6);
        at(60).taken("pass(39)", x -> x.pass(39), 99);
        at(98).taken("pass(1)", x -> x.pass(1), 99);
        at(98).refused("pass(2)", x -> x.pass(2), -6);
        at(98).refused("pass(0)", x -> x.pass(0), -4);
        for (int n : new int[] {1, 2, 40, 41, MAX, MAX - 98}) {
            at(99).refused("pass(" + n + ") in minute 99", x -> x.pass(n), -6);
        }
        for (int n : new int[] {0, -1, MIN}) {
            at(99).refused("pass(" + n + ") in minute 99", x -> x.pass(n), -4);
        }
    }

    private static void manyMinutesAreAsOneByOne() {
        for (int n : new int[] {1, 2, 3, 39, 40}) {
            SmellHowLong x = Towns.busy();
            SmellHowLong slow = Towns.busy();
            x.pass(n);
            for (int i = 0; i < n; i++) {
                slow.pass(1);
            }
            BUSY.sameSight("pass(" + n + ")", x, slow);
        }
    }

    /** "to the ROOM of his PLAN whose place is MINUTE modulo its length", for 1 .. 6 ROOMS and MINUTES 0 .. 99. */
    private static void plansGoRound() {
        String plan = "123450";
        for (int length = 1; length <= 6; length++) {
            SmellHowLong x = Due.town(Towns.ALL_PATHS + "aw5" + plan.substring(0, length) + ";");
            int room = 5;
            for (int minute = 0; minute <= 99; minute++) {
                room = plan.charAt(minute % length) - '0';
                DUE.is(length + " rooms, walker(0, 3) in " + minute, x.walker(0, 3), room);
                x.pass(1);
                // Minute 99 is the last: one more is refused, and he stays where he came to then.
                if (minute < 99) {
                    DUE.is(length + " rooms, walker(0, 1) behind " + minute, x.walker(0, 1), room);
                }
            }
            DUE.is("count(2)", x.count(2), 99);
            DUE.is("walker(0, 1)", x.walker(0, 1), plan.charAt(98 % length) - '0');
        }
    }

    /** "if a PATH leads there, else he stays (also without a PLAN)". */
    private static void withoutAPlanOrAPath() {
        for (String kind : "w l s c".split(" ")) {
            Bounds without = new Bounds(DUE, () -> Due.town("p01;a" + kind + "0;"));
            without.still("without a plan", x -> x.walker(0, 3), 0);
            DUE.is("he stays", without.taken("pass(1)", x -> x.pass(1), 1).walker(0, 1), 0);
            Bounds pathless = new Bounds(DUE, () -> Due.town("p12;a" + kind + "01;"));
            pathless.still("no path leads there", x -> x.walker(0, 3), 0);
            DUE.is("he stays", pathless.taken("pass(1)", x -> x.pass(1), 1).walker(0, 1), 0);
            new Bounds(DUE, () -> Due.town("p01;a" + kind + "00;")).still("his own room", x -> x.walker(0, 3), 0);
            new Bounds(DUE, () -> Due.town("p01;a" + kind + "01;")).still("a path", x -> x.walker(0, 3), 1);
            new Bounds(DUE, () -> Due.town("p01;a" + kind + "10;")).still("its other end", x -> x.walker(0, 3), 0);
            new Bounds(DUE, () -> Due.town("p01;p01;a" + kind + "01;")).still("none", x -> x.walker(0, 3), 0);
        }
    }

    /** "leaves one only where he stays" .. "(a LIGHT one, if he did not go ..)". */
    private static void lightOnesLeaveWhereTheyStay() {
        SmellHowLong goes = new Bounds(DUE, () -> Due.town("p01;al010;")).taken("pass(3)", x -> x.pass(3), 3);
        DUE.is("he went", goes.walker(0, 1), 1);
        DUE.is("age(0, 0)", goes.age(0, 0), 3);
        DUE.is("age(0, 1)", goes.age(0, 1), -9);
        SmellHowLong stays = Due.town("p01;al0111;");
        stays.pass(1);
        DUE.is("he went", stays.age(0, 1), -9);
        stays.pass(1);
        DUE.is("he stayed", stays.age(0, 1), 0);
        SmellHowLong noPath = Due.town("al01;");
        noPath.pass(1);
        DUE.is("no path, so he stayed", noPath.age(0, 0), 0);
        SmellHowLong ownRoom = Due.town("p01;al00;");
        ownRoom.pass(1);
        DUE.is("his own room, so he stayed", ownRoom.age(0, 0), 0);
        SmellHowLong put = Due.town("p01;al0;");
        put.put(0, 1);
        put.pass(1);
        DUE.is("put, then he stayed", put.age(0, 1), 0);
        DUE.is("none more where he was", put.age(0, 0), 1);
        SmellHowLong putAndWent = Due.town("p01;al00;");
        putAndWent.put(0, 1);
        putAndWent.pass(1);
        DUE.is("put, then he went", putAndWent.age(0, 0), 1);
    }

    /** "c CLEAN ..: as a WALKER; none." */
    private static void cleanOnesLeaveNone() {
        SmellHowLong x = Due.town("p01;ac01;");
        DUE.is("count(4)", x.count(4), 0);
        x.pass(1);
        DUE.is("he went", x.walker(0, 1), 1);
        x.pass(1);
        DUE.is("he stayed", x.walker(0, 1), 1);
        x.put(0, 5);
        x.pass(1);
        DUE.is("count(4)", x.count(4), 0);
        DUE.is("age(0, 5)", x.age(0, 5), -9);
        DUE.is("rain()", x.rain(), 0);
    }

    /** "s STRONG ..: a WALKER's AGE by 2, cut." */
    private static void strongAgesAreCut() {
        SmellHowLong x = Due.town("as0;as1;as2;as3;w11;w22;w33;");
        for (int walker = 0; walker < 4; walker++) {
            x.put(walker, 5);
        }
        for (int minute = 0; minute <= 99; minute++) {
            for (int room = 0; room < 4 && minute % 4 == room; room++) {
                DUE.is("age in minute " + minute, x.age(room, room), (minute + minute * room) / 2);
            }
            x.pass(1);
        }
        DUE.is("age(0, 0)", x.age(0, 0), 49);
        DUE.is("age(1, 1)", x.age(1, 1), 99);
        DUE.is("age(2, 2)", x.age(2, 2), 148);
        DUE.is("age(3, 3)", x.age(3, 3), 198);
        SmellHowLong odd = Due.town("as0;");
        odd.put(0, 1);
        odd.pass(1);
        DUE.is("1 by 2", odd.age(0, 0), 0);
        odd.pass(1);
        DUE.is("2 by 2", odd.age(0, 0), 1);
        odd.pass(1);
        DUE.is("3 by 2", odd.age(0, 0), 1);
        odd.wind(0, 2);
        DUE.is("9 by 2, not 3 times 1", odd.age(0, 0), 4);
    }

    /** "a MINUTE older each MINUTE, as many more as the WIND of the ROOM", for all kinds that leave some. */
    private static void agesOfEachWind() {
        for (String kind : "w l f b".split(" ")) {
            for (int wind = 0; wind <= 3; wind++) {
                SmellHowLong x = Due.town("a" + kind + "0;w0" + wind + ";");
                DUE.is(kind + " in the minute itself", x.age(0, 0), 0);
                x.put(0, 5);
                x.pass(1);
                DUE.is(kind + " a minute ago", x.age(0, 0), 1 + wind);
                DUE.is(kind + " where no wind is", x.age(0, 5), 0);
                Towns.goTo(x, 99);
                DUE.is(kind + " 99 minutes ago", x.age(0, 0), 99 + 99 * wind);
            }
        }
    }

    /** "others' TRACES (none: he stays)". */
    private static void followersWhoSmellNone() {
        for (String kind : "f b".split(" ")) {
            String own = "p01;p12;a" + kind + "0;";
            new Bounds(DUE, () -> Due.town(own)).still("nobody else", x -> x.walker(0, 3), 0);
            new Bounds(DUE, () -> Due.town(own + "ac1;")).still("a clean one", x -> x.walker(0, 3), 0);
            new Bounds(DUE, () -> Due.town(own + "aw2;")).still("two paths away", x -> x.walker(0, 3), 0);
            new Bounds(DUE, () -> Due.town(own + "aw3;")).still("no path", x -> x.walker(0, 3), 0);
            new Bounds(DUE, () -> Due.town(own + "aw1;")).still("a path", x -> x.walker(0, 3), 1);
            new Bounds(DUE, () -> Due.town(own + "aw0;")).still("beside him", x -> x.walker(0, 3), 0);
            SmellHowLong rained = Due.town(own + "aw1;");
            rained.rain();
            DUE.is("no more", rained.walker(0, 3), 0);
            SmellHowLong ownTrace = Due.town(own);
            ownTrace.put(0, 1);
            DUE.is("his own is none", ownTrace.walker(0, 3), 1);
            // The others' trace in 0, though his own one there is fresher and older ones are his too.
            Due.tell(ownTrace, "aw0;");
            DUE.is("another's is one", ownTrace.walker(0, 3), 0);
        }
    }

    /** "of several his own first, then the least". */
    private static void followersOfSeveral() {
        String around = Towns.ALL_PATHS;
        DUE.is("his own, the greatest", Due.town(around + "af5;aw0;aw5;").walker(0, 3), 5);
        DUE.is("his own, in the middle", Due.town(around + "af2;aw0;aw2;aw5;").walker(0, 3), 2);
        DUE.is("the least", Due.town(around + "af2;aw5;aw3;aw0;").walker(0, 3), 0);
        DUE.is("the least above his own", Due.town(around + "af2;aw5;aw4;aw3;").walker(0, 3), 3);
        SmellHowLong x = Due.town(around + "aw0;aw5;ac3;");
        x.put(0, 2);
        x.pass(1);
        Due.tell(x, "af0;");
        // In 0 is a trace of a minute ago, in 2 and 5 are fresh ones.
        DUE.is("fresher than his own room's", x.walker(3, 3), 2);
        x.put(0, 4);
        x.put(1, 4);
        x.pass(1);
        DUE.is("walker(3, 1)", x.walker(3, 1), 2);
        DUE.is("the fresh ones of 4", x.walker(3, 3), 4);
    }

    /** "to the ROOM with the greatest AGE of any of others' TRACES". */
    private static void backwardOnesOfSeveral() {
        String around = Towns.ALL_PATHS;
        DUE.is("his own, the greatest", Due.town(around + "ab5;aw0;aw5;").walker(0, 3), 5);
        DUE.is("the least", Due.town(around + "ab2;aw5;aw3;aw0;").walker(0, 3), 0);
        SmellHowLong x = Due.town(around + "aw1;ac0;");
        x.put(0, 4);
        x.pass(1);
        Due.tell(x, "ab0;aw1;");
        // In 1 are one of a minute ago and a fresh one, in 4 a fresh one: the greatest of any.
        DUE.is("the greatest of any", x.walker(2, 3), 1);
        x.wind(4, 3);
        DUE.is("a fresh one is 0 in each wind", x.walker(2, 3), 1);
        SmellHowLong far = Due.town(around + "aw5;aw0;ab0;");
        far.put(0, 1);
        far.put(1, 3);
        far.pass(1);
        // Behind a minute 5 and 0 have traces of a minute ago, 1 and 3 fresh ones.
        DUE.is("he went to 0, his own first", far.walker(2, 1), 0);
        DUE.is("the least of the greatest is his own", far.walker(2, 3), 0);
        far.wind(5, 1);
        DUE.is("the greatest, not the freshest", far.walker(2, 3), 5);
        far.wind(5, 0);
        far.wind(0, 1);
        DUE.is("the greatest, by the wind", far.walker(2, 3), 0);
        far.put(2, 4);
        far.wind(0, 0);
        DUE.is("of several the least", far.walker(2, 3), 0);
    }

    /** "all go at once, by TRACES as they are; MINUTE is 1 more; then each leaves a TRACE, of this MINUTE". */
    private static void allGoByTracesAsTheyAre() {
        // The follower smells where the walker was, not where he goes to.
        SmellHowLong x = Due.town("p01;p12;aw12;af0;");
        x.pass(1);
        DUE.is("walker(0, 1)", x.walker(0, 1), 2);
        DUE.is("walker(1, 1)", x.walker(1, 1), 1);
        DUE.is("age(0, 2)", x.age(0, 2), 0);
        DUE.is("age(0, 1)", x.age(0, 1), 1);
        DUE.is("age(1, 1)", x.age(1, 1), 0);
        // The same, whoever came first.
        SmellHowLong turned = Due.town("p01;p12;af0;aw12;");
        turned.pass(1);
        DUE.is("walker(0, 1)", turned.walker(0, 1), 1);
        DUE.is("walker(1, 1)", turned.walker(1, 1), 2);
    }

    /** "A TRACE of a WALKER in a ROOM: the last MINUTE in which he left one there, or none." */
    private static void theLastTraceIsTheOne() {
        SmellHowLong x = Due.town("aw0;");
        DUE.is("none", x.age(0, 1), -9);
        for (int minute = 1; minute <= 40; minute++) {
            x.pass(1);
            DUE.is("age(0, 0)", x.age(0, 0), 0);
            DUE.is("count(4)", x.count(4), 1);
            DUE.is("smelt(0, 0)", x.smelt(0, 0), 1);
        }
    }

    /** "how many TRACES are no more": none. */
    private static void rainOnNothing() {
        NEW.still("rain()", x -> x.rain(), 0);
        new Bounds(DUE, () -> Due.town("ac0;")).still("a clean one", x -> x.rain(), 0);
        Bounds rained = new Bounds(DUE, () -> {
            SmellHowLong x = Towns.full();
            x.rain();
            return x;
        });
        rained.still("a second rain", x -> x.rain(), 0);
    }

    /** "TRACES in ROOMS without ROOF are no more." */
    private static void rainUnderRoofs() {
        Bounds roofed = new Bounds(DUE, () -> Due.town(ALL_ROOFS + "aw0;al1;as5;"));
        roofed.still("all under roofs", x -> x.rain(), 0);
        for (int room = 0; room <= 5; room++) {
            int r = room;
            Bounds one = new Bounds(DUE, () -> Due.town("r" + r + ";aw" + r + ";aw" + (r + 1) % 6 + ";"));
            SmellHowLong x = one.taken("rain()", y -> y.rain(), 1);
            DUE.is("under the roof", x.age(0, r), 0);
            DUE.is("without", x.age(1, (r + 1) % 6), -9);
            Bounds twice = new Bounds(DUE, () -> Due.town("r" + r + ";r" + r + ";aw" + r + ";"));
            DUE.is("no roof", twice.taken("a roof told again is none: rain()", y -> y.rain(), 1).count(4), 0);
        }
    }

    /** The most TRACES that there can be: of 4 WALKERS in 6 ROOMS. */
    private static SmellHowLong tracesEverywhere(String ahead) {
        SmellHowLong x = Due.town(ahead + "aw0;al0;as0;aw0;");
        for (int room = 1; room <= 5; room++) {
            for (int walker = 0; walker < 4; walker++) {
                x.put(walker, room);
            }
            x.pass(1);
        }
        return x;
    }

    private static void rainOnAll() {
        Bounds all = new Bounds(DUE, () -> tracesEverywhere("n1;"));
        all.still("count(4)", x -> x.count(4), 24);
        SmellHowLong x = all.taken("rain()", y -> y.rain(), 24);
        DUE.is("count(4)", x.count(4), 0);
        DUE.is("count(2)", x.count(2), 5);
        DUE.is("walker(3, 1)", x.walker(3, 1), 5);
        Bounds underOne = new Bounds(DUE, () -> tracesEverywhere("r5;"));
        SmellHowLong y = underOne.taken("rain()", z -> z.rain(), 20);
        DUE.is("smelt(5, 0)", y.smelt(5, 0), 4);
        DUE.is("count(4)", y.count(4), 4);
        new Bounds(DUE, () -> tracesEverywhere(ALL_ROOFS)).still("rain()", z -> z.rain(), 0);
    }
}
