/** The bounds that the document names of the ways across and of a trace told apart: promises 20 to 22. */
public final class BoundsOfAcrossTest {
    private static final Due DUE = new Due("BoundsOfAcrossTest");
    private static final Bounds BUSY = new Bounds(DUE, Towns::busy);
    private static final Bounds NEW = new Bounds(DUE, SmellHowLong::new);
    private static final Bounds FULL = new Bounds(DUE, Towns::full);
    private static final int MIN = Integer.MIN_VALUE;
    private static final int MAX = Integer.MAX_VALUE;
    private static final String LINE = "p01;p12;p23;p34;p45;";

    public static void main(String[] args) {
        whereFromAndWhereTo();
        toWhereHeIs();
        byPathsOrStaying();
        theFirstMinuteIsFree();
        whereThenNobodyIs();
        acrossInNoughtTo40();
        whereThenAFreshTraceIs();
        coveredByAgeThree();
        coveredInNoughtTo40();
        aboveMinute99();
        toldWhere();
        toldOfTwo();
        toldInNoughtTo40();
        toldByNose();
        nobodyLeavesAnyMore();
        DUE.end();
    }

    /** "-1 either." */
    private static void whereFromAndWhereTo() {
        for (int room : new int[] {-1, 6, MIN, MAX}) {
            BUSY.refused("across(" + room + ", 0)", x -> x.across(room, 0), -1);
            BUSY.refused("across(0, " + room + ")", x -> x.across(0, room), -1);
            BUSY.refused("across(" + room + " twice)", x -> x.across(room, room), -1);
            BUSY.refused("covered(" + room + ", 0)", x -> x.covered(room, 0), -1);
            BUSY.refused("covered(0, " + room + ")", x -> x.covered(0, room), -1);
            BUSY.refused("covered(" + room + " twice)", x -> x.covered(room, room), -1);
            NEW.refused("across(" + room + ", 0)", x -> x.across(room, 0), -1);
            NEW.refused("covered(0, " + room + ")", x -> x.covered(0, room), -1);
        }
    }

    /** "the fewest MINUTES (0 .. 40) by which he is there": 0, whoever is there. */
    private static void toWhereHeIs() {
        for (int room = 0; room <= 5; room++) {
            int r = room;
            for (Bounds bounds : new Bounds[] {BUSY, NEW, FULL}) {
                bounds.still("across(" + r + " twice)", x -> x.across(r, r), 0);
                bounds.still("covered(" + r + " twice)", x -> x.covered(r, r), 0);
            }
        }
    }

    /** "MINUTE by MINUTE, by a PATH or staying". */
    private static void byPathsOrStaying() {
        Bounds line = new Bounds(DUE, () -> Due.town(LINE));
        Bounds joined = new Bounds(DUE, () -> Due.town(Towns.ALL_PATHS));
        Bounds gone = new Bounds(DUE, () -> Due.town(LINE + "p23;"));
        for (int from = 0; from <= 5; from++) {
            for (int to = 0; to <= 5; to++) {
                int f = from;
                int t = to;
                int far = Math.abs(f - t);
                line.still("across(" + f + ", " + t + ")", x -> x.across(f, t), far);
                joined.still("across(" + f + ", " + t + ")", x -> x.across(f, t), Math.min(1, far));
                NEW.still("across(" + f + ", " + t + ")", x -> x.across(f, t), far == 0 ? 0 : -9);
                boolean parted = (f <= 2) != (t <= 2);
                gone.still("across(" + f + ", " + t + ")", x -> x.across(f, t), parted ? -9 : far);
                NEW.still("covered(" + f + ", " + t + ")", x -> x.covered(f, t), far == 0 ? 0 : -9);
                line.still("covered(" + f + ", " + t + "), no trace", x -> x.covered(f, t), far == 0 ? 0 : -9);
            }
        }
    }

    /** "if he is, in each MINUTE but the first, in a ROOM where .. no WALKER is". */
    private static void theFirstMinuteIsFree() {
        Bounds stays = new Bounds(DUE, () -> Due.town(LINE + "ac0;ac5;"));
        stays.still("from where one is", x -> x.across(0, 1), 1);
        stays.still("from where one is", x -> x.across(5, 1), 4);
        stays.still("to where one is", x -> x.across(1, 0), -9);
        stays.still("from one to the other", x -> x.across(0, 5), -9);
        // Already behind the first MINUTE that goes by nobody may be where he is.
        Bounds comes = new Bounds(DUE, () -> Due.town("p01;p12;ac010;"));
        comes.still("he comes to 1 behind it", x -> x.across(2, 1), 2);
        comes.still("and is not in 0 then", x -> x.across(1, 0), 1);
    }

    /** "where then (behind it) no WALKER is": then, not now. */
    private static void whereThenNobodyIs() {
        new Bounds(DUE, () -> Due.town("p01;p12;ac12;")).still("he goes away", x -> x.across(0, 1), 1);
        new Bounds(DUE, () -> Due.town("p01;p12;ac21;")).still("he comes", x -> x.across(0, 1), -9);
        new Bounds(DUE, () -> Due.town("p01;ac01;")).still("they change places", x -> x.across(1, 0), 1);
        new Bounds(DUE, () -> Due.town("p01;p12;ac101;")).still("through behind him", x -> x.across(0, 2), 2);
        new Bounds(DUE, () -> Due.town("p01;p12;ac010;")).still("through, when he is back", x -> x.across(0, 2), 3);
        // In 0 he can't stay, to 1 he can't go: he is nowhere.
        new Bounds(DUE, () -> Due.town("p01;p12;ac0;ac1;")).still("two in his way", x -> x.across(0, 2), -9);
        // Of four who stand in 1, 2, 3 and 4 each shuts his own room.
        Bounds four = new Bounds(DUE, () -> Due.town(LINE + "p50;aw1;al2;as3;ac4;"));
        int[] wants = {0, -9, -9, -9, -9, 1};
        for (int room = 0; room <= 5; room++) {
            int r = room;
            four.still("across(0, " + r + ")", x -> x.across(0, r), wants[r]);
        }
        FULL.still("from one who stands to an empty room", x -> x.across(0, 5), 1);
        FULL.still("from an empty room to the other", x -> x.across(4, 5), 1);
        FULL.still("to one who stands", x -> x.across(4, 3), -9);
        new Bounds(DUE, () -> Due.town("p01;p12;af2;")).still("nobody smells him", x -> x.across(0, 1), 1);
    }

    private static void acrossInNoughtTo40() {
        for (int minutes : new int[] {1, 37, 38}) {
            Bounds slow = new Bounds(DUE, () -> Due.slowFollower(minutes));
            slow.still("across in " + (minutes + 2), x -> x.across(2, 0), minutes + 2);
        }
        new Bounds(DUE, () -> Due.slowFollower(39)).still("across in 41", x -> x.across(2, 0), -9);
        SmellHowLong sooner = Due.slowFollower(39);
        sooner.pass(1);
        DUE.is("a minute later", sooner.across(2, 0), 40);
    }

    /** "in each MINUTE but the first there is in his ROOM a TRACE .., behind it". */
    private static void whereThenAFreshTraceIs() {
        Bounds stands = new Bounds(DUE, () -> Due.town(LINE + "aw1;al2;as3;ac4;"));
        int[] wants = {-9, 1, 2, 3, -9, -9};
        for (int room = 1; room <= 5; room++) {
            int r = room;
            stands.still("covered(0, " + r + ")", x -> x.covered(0, r), wants[r]);
        }
        stands.still("from where none is", x -> x.covered(5, 1), -9);
        stands.still("from where none is", x -> x.covered(4, 1), 3);
        stands.still("to where none is", x -> x.covered(1, 0), -9);
        // The walker leaves it in 1 only behind the first minute: then it is there.
        new Bounds(DUE, () -> Due.town("p01;p12;aw21;")).still("left then", x -> x.covered(0, 1), 1);
        // A light one who goes leaves none where he comes to, and one behind the next minute.
        new Bounds(DUE, () -> Due.town("p01;p12;al21;")).still("not left yet", x -> x.covered(0, 1), -9);
        new Bounds(DUE, () -> Due.town("p01;p12;aw0;al21;")).still("left behind two", x -> x.covered(0, 1), 2);
    }

    /** A trace of now in 1, where nobody is any more, beside 0. */
    private static SmellHowLong freshBesideHim(String kind, int wind, int ago) {
        SmellHowLong x = Due.town("p01;w1" + wind + ";a" + kind + "1;");
        x.put(0, 5);
        if (ago > 0) {
            x.pass(ago);
        }
        return x;
    }

    /** "of AGE 3 or less". */
    private static void coveredByAgeThree() {
        int[] lastFor = {2, 0, 0, -1};
        int[] lastForStrong = {6, 2, 1, 0};
        for (int wind = 0; wind <= 3; wind++) {
            for (int ago = 0; ago <= 8; ago++) {
                int w = wind;
                int a = ago;
                String told = "wind " + w + ", " + a + " ago and a minute more";
                new Bounds(DUE, () -> freshBesideHim("w", w, a))
                        .still(told, x -> x.covered(0, 1), a <= lastFor[w] ? 1 : -9);
                new Bounds(DUE, () -> freshBesideHim("s", w, a))
                        .still(told + ", strong", x -> x.covered(0, 1), a <= lastForStrong[w] ? 1 : -9);
            }
        }
    }

    private static void coveredInNoughtTo40() {
        // The strong one's of 7 minutes ago is 3 old, that of 8 minutes ago is 4.
        new Bounds(DUE, () -> Due.slowFollower(6)).still("covered in 1", x -> x.covered(0, 1), 1);
        for (int minutes : new int[] {7, 8, 37, 38}) {
            Bounds slow = new Bounds(DUE, () -> Due.slowFollower(minutes));
            slow.still("covered in " + (minutes + 2), x -> x.covered(0, 1), minutes + 2);
        }
        new Bounds(DUE, () -> Due.slowFollower(39)).still("covered in 41", x -> x.covered(0, 1), -9);
        SmellHowLong sooner = Due.slowFollower(39);
        sooner.pass(1);
        DUE.is("a minute later", sooner.covered(0, 1), 40);
    }

    /** In mind the MINUTES go on above 99. */
    private static void aboveMinute99() {
        for (int minute : new int[] {97, 98, 99}) {
            Bounds late = new Bounds(DUE, () -> Towns.at(minute, LINE + "aw5;"));
            late.still("across(0, 4) in " + minute, x -> x.across(0, 4), 4);
            late.still("covered(4, 5) in " + minute, x -> x.covered(4, 5), 1);
            late.still("told(5) in " + minute, x -> x.told(5), -9);
            // Where the plan's place of minute 100 counts: 0, 1, 2 of three for 99, 100, 101.
            Bounds goes = new Bounds(DUE, () -> {
                SmellHowLong x = Towns.at(minute, "p01;p02;p12;ac0012;");
                x.put(0, 0);
                return x;
            });
            int first = minute % 3;
            goes.still("across(2, 0) in " + minute, x -> x.across(2, 0), first == 0 ? 2 : 1);
            goes.still("across(2, 1) in " + minute, x -> x.across(2, 1), first == 1 ? 2 : 1);
        }
        Bounds slow = new Bounds(DUE, () -> {
            SmellHowLong x = Due.town("aw0;as0;");
            x.put(0, 1);
            x.put(1, 1);
            Towns.goTo(x, 59);
            Due.tell(x, "aw0;");
            x.put(2, 1);
            Towns.goTo(x, 79);
            return x;
        });
        // A walker's of 20 minutes ago against a strong one's of 79 by 2: alike behind 38 minutes, in 117.
        slow.still("told(0) in 79", x -> x.told(0), 38);
    }

    /** "-1." */
    private static void toldWhere() {
        for (int room : new int[] {-1, 6, MIN, MAX}) {
            BUSY.refused("told(" + room + ")", x -> x.told(room), -1);
            NEW.refused("told(" + room + ")", x -> x.told(room), -1);
        }
    }

    /** "-9 there are not two." */
    private static void toldOfTwo() {
        for (int room = 0; room <= 5; room++) {
            int r = room;
            NEW.still("told(" + r + ") of none", x -> x.told(r), -9);
            FULL.still("told(" + r + ") of one", x -> x.told(r), -9);
            Bounds two = new Bounds(DUE, () -> Due.town("aw" + r + ";al" + r + ";"));
            two.still("told(" + r + ") of two", x -> x.told(r), 0);
            Bounds clean = new Bounds(DUE, () -> Due.town("aw" + r + ";ac" + r + ";"));
            clean.still("told(" + r + ") of one and a clean one", x -> x.told(r), -9);
        }
        SmellHowLong rained = Due.town("aw0;aw0;");
        rained.rain();
        DUE.is("told(0) of none", rained.told(0), -9);
    }

    /** A strong one's trace in 0, and a walker's so many minutes later: t and (t + later) by 2, cut, are alike. */
    private static SmellHowLong walkerBehindStrong(int later, int passed) {
        SmellHowLong x = Due.town("as0;");
        x.put(0, 5);
        Towns.goTo(x, later);
        Due.tell(x, "aw0;");
        x.put(1, 5);
        Towns.goTo(x, later + passed);
        return x;
    }

    /** "the first MINUTE from now on (0 .. 40) ..; 41 it always is". */
    private static void toldInNoughtTo40() {
        for (int later = 1; later <= 45; later++) {
            int l = later;
            int alike = later - 1;
            Bounds strong = new Bounds(DUE, () -> walkerBehindStrong(l, 0));
            strong.still("told(0), " + l + " later", x -> x.told(0), alike <= 40 ? alike : 41);
        }
        for (int passed : new int[] {0, 1, 38, 39}) {
            Bounds strong = new Bounds(DUE, () -> walkerBehindStrong(40, passed));
            strong.still("told(0), " + passed + " passed", x -> x.told(0), 39 - passed);
        }
        // Alike in two minutes; behind them the strong one's is the freshest, always told apart.
        new Bounds(DUE, () -> walkerBehindStrong(40, 40)).still("the last alike", x -> x.told(0), 0);
        new Bounds(DUE, () -> walkerBehindStrong(40, 41)).still("never again", x -> x.told(0), 41);
        for (int walkers = 2; walkers <= 4; walkers++) {
            StringBuilder text = new StringBuilder();
            for (int i = 1; i < walkers; i++) {
                text.append("aw0;");
            }
            Bounds apart = new Bounds(DUE, () -> {
                SmellHowLong x = Due.town(text.toString());
                for (int walker = x.count(0) - 1; walker >= 0; walker--) {
                    x.put(walker, 5);
                }
                x.pass(1);
                Due.tell(x, "al0;");
                return x;
            });
            // The older ones are alike, but the freshest is told apart from each.
            apart.still("told(0) of " + walkers, x -> x.told(0), 41);
        }
    }

    private static SmellHowLong twoLeft(int younger, int older, int nose, int wind) {
        SmellHowLong x = Due.town("aw0;n" + nose + ";w0" + wind + ";");
        x.put(0, 5);
        Towns.goTo(x, older - younger);
        Due.tell(x, "al0;");
        x.put(1, 5);
        Towns.goTo(x, older);
        return x;
    }

    /** "the freshest TRACE of a ROOM is not told apart from another one there": by NOSE. */
    private static void toldByNose() {
        for (int apart = 0; apart <= 10; apart++) {
            int a = apart;
            new Bounds(DUE, () -> twoLeft(0, a, 9, 0)).still(a + " apart, now", x -> x.told(0), a <= 8 ? 0 : 41);
            new Bounds(DUE, () -> twoLeft(0, a, 1, 0)).still(a + " apart, nose 1", x -> x.told(0), a == 0 ? 0 : 41);
            // Ages 8 and 8 + a; behind one minute 9 and 9 + a, alike if a is at most 8.
            int want = a == 0 ? 0 : a <= 8 ? 1 : 41;
            new Bounds(DUE, () -> twoLeft(8, 8 + a, 9, 0)).still(a + " apart, 8 old", x -> x.told(0), want);
        }
        // By wind 3 each minute is 4 of the ages, which go by 9, cut.
        new Bounds(DUE, () -> twoLeft(1, 2, 9, 3)).still("4 and 8", x -> x.told(0), 0);
        new Bounds(DUE, () -> twoLeft(2, 3, 9, 3)).still("8 and 12", x -> x.told(0), 1);
        new Bounds(DUE, () -> twoLeft(2, 4, 9, 3)).still("8 and 16, 36 and 44", x -> x.told(0), 7);
        new Bounds(DUE, () -> twoLeft(2, 5, 9, 3)).still("12 apart", x -> x.told(0), 41);
    }

    /** "if nobody left any more": who stands there leaves none in mind. */
    private static void nobodyLeavesAnyMore() {
        SmellHowLong x = Due.town("as0;");
        x.put(0, 5);
        x.pass(10);
        Due.tell(x, "aw0;");
        Bounds stands = new Bounds(DUE, () -> {
            SmellHowLong y = Due.town("as0;");
            y.put(0, 5);
            y.pass(10);
            Due.tell(y, "aw0;");
            return y;
        });
        stands.still("he stands on it", y -> y.told(0), 9);
        x.pass(5);
        DUE.is("he has left more", x.told(0), 14);
    }
}
