/** The bounds that the document names of ages, of what is smelt, and of what is so in mind: promises 11 to 16. */
public final class BoundsOfSmellTest {
    private static final Due DUE = new Due("BoundsOfSmellTest");
    private static final Bounds BUSY = new Bounds(DUE, Towns::busy);
    private static final Bounds NEW = new Bounds(DUE, SmellHowLong::new);
    private static final Bounds FULL = new Bounds(DUE, Towns::full);
    private static final int MIN = Integer.MIN_VALUE;
    private static final int MAX = Integer.MAX_VALUE;

    public static void main(String[] args) {
        ageOfWhomAndWhere();
        leastAndGreatestAge();
        smeltWhereAndWhat();
        nothingToSmell();
        toldApartByNose();
        toldApartOfNoneToFour();
        behindWhomAndWhen();
        behindNoughtTo40();
        freshestWhereAndWhen();
        freshestOfNoughtTo40();
        mindGoesOnAboveMinute99();
        meetWhom();
        meetBehindNoughtTo40();
        scentedWhen();
        scentedOfNoneToAll();
        DUE.end();
    }

    /** "AGE of his TRACE; -9. -1 either." */
    private static void ageOfWhomAndWhere() {
        for (int walker : new int[] {-1, 3, MIN, MAX}) {
            BUSY.refused("age(" + walker + ", 0)", x -> x.age(walker, 0), -1);
            BUSY.refused("age(" + walker + ", 6)", x -> x.age(walker, 6), -1);
        }
        for (int room : new int[] {-1, 6, MIN, MAX}) {
            BUSY.refused("age(0, " + room + ")", x -> x.age(0, room), -1);
        }
        NEW.refused("age(0, 0)", x -> x.age(0, 0), -1);
        FULL.refused("age(4, 0)", x -> x.age(4, 0), -1);
        FULL.still("age(3, 3), a clean one's", x -> x.age(3, 3), -9);
        FULL.still("age(2, 2)", x -> x.age(2, 2), 0);
        FULL.still("age(0, 5)", x -> x.age(0, 5), -9);
        BUSY.still("age(1, 5), where he was put", x -> x.age(1, 5), 0);
        BUSY.still("age(1, 1), a strong one's", x -> x.age(1, 1), 1);
        BUSY.still("age(1, 0)", x -> x.age(1, 0), -9);
    }

    private static SmellHowLong oldest(int minute, int wind) {
        SmellHowLong x = Due.town("aw0;as0;w0" + wind + ";");
        x.put(0, 1);
        x.put(1, 2);
        Towns.goTo(x, minute);
        return x;
    }

    /** AGES of 0 to 99 MINUTES ago, WIND 0 to 3. */
    private static void leastAndGreatestAge() {
        for (int minute : new int[] {0, 1, 2, 3, 98, 99}) {
            for (int wind = 0; wind <= 3; wind++) {
                int age = minute + minute * wind;
                int m = minute;
                int w = wind;
                Bounds old = new Bounds(DUE, () -> oldest(m, w));
                old.still("age(0, 0) in " + m + ", wind " + w, x -> x.age(0, 0), age);
                old.still("age(1, 0) in " + m + ", wind " + w, x -> x.age(1, 0), age / 2);
                old.still("smelt(0, 1) in " + m + ", wind " + w, x -> x.smelt(0, 1), age / 2);
                old.still("smelt(0, 2) in " + m + ", wind " + w, x -> x.smelt(0, 2), age);
                old.still("smelt(0, 3) in " + m + ", wind " + w, x -> x.smelt(0, 3), age == 0 ? 1 : 2);
            }
        }
        SmellHowLong rained = Towns.full();
        rained.rain();
        DUE.is("age(0, 0) of none", rained.age(0, 0), -9);
    }

    /** "-1; -2." */
    private static void smeltWhereAndWhat() {
        for (int room : new int[] {-1, 6, MIN, MAX}) {
            BUSY.refused("smelt(" + room + ", 0)", x -> x.smelt(room, 0), -1);
            BUSY.refused("smelt(" + room + ", 4)", x -> x.smelt(room, 4), -1);
            BUSY.refused("smelt(" + room + ", -1)", x -> x.smelt(room, -1), -1);
        }
        for (int what : new int[] {-1, 4, MIN, MAX}) {
            BUSY.refused("smelt(0, " + what + ")", x -> x.smelt(0, what), -2);
            BUSY.refused("smelt(5, " + what + ")", x -> x.smelt(5, what), -2);
            NEW.refused("smelt(0, " + what + ")", x -> x.smelt(0, what), -2);
        }
    }

    private static void smelts(Bounds bounds, int room, int... wants) {
        for (int what = 0; what <= 3; what++) {
            int w = what;
            bounds.still("smelt(" + room + ", " + w + ")", x -> x.smelt(room, w), wants[w]);
        }
    }

    /** "how many TRACES; the least AGE, the greatest (-9 none); how many are told apart". */
    private static void nothingToSmell() {
        for (int room = 0; room <= 5; room++) {
            smelts(NEW, room, 0, -9, -9, 0);
        }
        smelts(FULL, 0, 1, 0, 0, 1);
        smelts(FULL, 2, 1, 0, 0, 1);
        smelts(FULL, 3, 0, -9, -9, 0);
        smelts(FULL, 5, 0, -9, -9, 0);
    }

    /** The AGES of two TRACES in room 0, the younger one of so many MINUTES ago. */
    private static SmellHowLong two(int younger, int older, int nose) {
        SmellHowLong x = Due.town("aw0;n" + nose + ";");
        x.put(0, 1);
        Towns.goTo(x, older - younger);
        Due.tell(x, "al0;");
        x.put(1, 2);
        Towns.goTo(x, older);
        return x;
    }

    /** "unlike numbers AGE by NOSE, cut", and the NOSE is no matter of the AGES. */
    private static void toldApartByNose() {
        smelts(new Bounds(DUE, () -> two(0, 8, 9)), 0, 2, 0, 8, 1);
        smelts(new Bounds(DUE, () -> two(0, 9, 9)), 0, 2, 0, 9, 2);
        smelts(new Bounds(DUE, () -> two(8, 9, 9)), 0, 2, 8, 9, 2);
        smelts(new Bounds(DUE, () -> two(9, 17, 9)), 0, 2, 9, 17, 1);
        smelts(new Bounds(DUE, () -> two(9, 18, 9)), 0, 2, 9, 18, 2);
        smelts(new Bounds(DUE, () -> two(17, 18, 9)), 0, 2, 17, 18, 2);
        smelts(new Bounds(DUE, () -> two(90, 98, 9)), 0, 2, 90, 98, 1);
        smelts(new Bounds(DUE, () -> two(98, 99, 9)), 0, 2, 98, 99, 2);
        smelts(new Bounds(DUE, () -> two(0, 0, 1)), 0, 2, 0, 0, 1);
        smelts(new Bounds(DUE, () -> two(7, 7, 1)), 0, 2, 7, 7, 1);
        smelts(new Bounds(DUE, () -> two(0, 1, 1)), 0, 2, 0, 1, 2);
        smelts(new Bounds(DUE, () -> two(98, 99, 1)), 0, 2, 98, 99, 2);
        for (int nose = 2; nose <= 9; nose++) {
            int n = nose;
            smelts(new Bounds(DUE, () -> two(0, n - 1, n)), 0, 2, 0, n - 1, 1);
            smelts(new Bounds(DUE, () -> two(0, n, n)), 0, 2, 0, n, 2);
        }
    }

    /** So many WALKERS with a TRACE in room 0 each, one left so many MINUTES behind the other. */
    private static SmellHowLong left(int walkers, int apart) {
        SmellHowLong x = new SmellHowLong();
        for (int walker = 0; walker < walkers; walker++) {
            Due.tell(x, "aw0;");
            x.put(walker, 5);
            if (apart > 0) {
                x.pass(apart);
            }
        }
        return x;
    }

    private static void toldApartOfNoneToFour() {
        for (int walkers = 0; walkers <= 4; walkers++) {
            int w = walkers;
            new Bounds(DUE, () -> left(w, 0)).still(w + " alike", x -> x.smelt(0, 3), w == 0 ? 0 : 1);
            new Bounds(DUE, () -> left(w, 1)).still(w + " unlike", x -> x.smelt(0, 3), w);
            new Bounds(DUE, () -> left(w, 0)).still(w + " alike", x -> x.smelt(0, 0), w);
            new Bounds(DUE, () -> left(w, 1)).still(w + " unlike", x -> x.smelt(0, 0), w);
        }
        SmellHowLong x = left(4, 1);
        // Ages 4, 3, 2, 1.
        int[] wants = {4, 3, 2, 2, 1, 1, 1, 1, 1};
        for (int nose = 1; nose <= 9; nose++) {
            x.nose(nose);
            DUE.is("by nose " + nose, x.smelt(0, 3), wants[nose - 1]);
        }
    }

    /** "-1; -4; -6 40." */
    private static void behindWhomAndWhen() {
        for (int walker : new int[] {-1, 3, MIN, MAX}) {
            for (int n : new int[] {0, -1, 41, MIN, MAX}) {
                BUSY.refused("behind(" + walker + ", " + n + ")", x -> x.behind(walker, n), -1);
            }
        }
        for (int walker : new int[] {0, 2}) {
            for (int n : new int[] {-1, MIN}) {
                BUSY.refused("behind(" + walker + ", " + n + ")", x -> x.behind(walker, n), -4);
            }
            for (int n : new int[] {41, 99, MAX}) {
                BUSY.refused("behind(" + walker + ", " + n + ")", x -> x.behind(walker, n), -6);
            }
        }
        NEW.refused("behind(0, 0)", x -> x.behind(0, 0), -1);
        FULL.refused("behind(4, 0)", x -> x.behind(4, 0), -1);
        FULL.still("behind(3, 0)", x -> x.behind(3, 0), 3);
    }

    /** "BEHIND n MINUTES (0 .. 40): the ROOM of a WALKER", and nothing goes by. */
    private static void behindNoughtTo40() {
        for (int n = 0; n <= 40; n++) {
            SmellHowLong later = Towns.busy();
            if (n > 0) {
                later.pass(n);
            }
            int minutes = n;
            for (int walker = 0; walker < 3; walker++) {
                int w = walker;
                BUSY.still("behind(" + w + ", " + n + ")", x -> x.behind(w, minutes), later.walker(w, 1));
            }
            for (int room = 0; room <= 5; room++) {
                int r = room;
                BUSY.still("freshest(" + r + ", " + n + ")", x -> x.freshest(r, minutes), later.smelt(r, 1));
            }
            int scented = 0;
            for (int walker = 0; walker < 3; walker++) {
                int others = later.smelt(later.walker(walker, 1), 0);
                others -= later.age(walker, later.walker(walker, 1)) == -9 ? 0 : 1;
                scented |= others > 0 ? 1 << walker : 0;
            }
            BUSY.still("scented(" + n + ")", x -> x.scented(minutes), scented);
        }
    }

    /** "The least AGE in a ROOM behind n MINUTES; -9. -1; -4; -6 40." */
    private static void freshestWhereAndWhen() {
        for (int room : new int[] {-1, 6, MIN, MAX}) {
            for (int n : new int[] {0, -1, 41, MIN, MAX}) {
                BUSY.refused("freshest(" + room + ", " + n + ")", x -> x.freshest(room, n), -1);
            }
        }
        for (int room : new int[] {0, 5}) {
            for (int n : new int[] {-1, MIN}) {
                BUSY.refused("freshest(" + room + ", " + n + ")", x -> x.freshest(room, n), -4);
            }
            for (int n : new int[] {41, 99, MAX}) {
                BUSY.refused("freshest(" + room + ", " + n + ")", x -> x.freshest(room, n), -6);
            }
            NEW.still("freshest(" + room + ", 0)", x -> x.freshest(room, 0), -9);
            NEW.still("freshest(" + room + ", 40)", x -> x.freshest(room, 40), -9);
        }
    }

    private static void freshestOfNoughtTo40() {
        // The walker was put away from his trace: nobody comes there again.
        for (int wind = 0; wind <= 3; wind++) {
            int w = wind;
            Bounds old = new Bounds(DUE, () -> oldest(0, w));
            old.still("freshest(0, 0)", x -> x.freshest(0, 0), 0);
            old.still("freshest(0, 1)", x -> x.freshest(0, 1), (1 + w) / 2);
            old.still("freshest(0, 40)", x -> x.freshest(0, 40), (40 + 40 * w) / 2);
            old.still("freshest(1, 0), where he is put", x -> x.freshest(1, 0), -9);
            old.still("freshest(1, 1)", x -> x.freshest(1, 1), 0);
            old.still("freshest(3, 40)", x -> x.freshest(3, 40), -9);
        }
    }

    /** MINUTE is 0 .. 99, but n is 0 .. 40 in each of them: in mind they go on. */
    private static void mindGoesOnAboveMinute99() {
        String text = "p01;p12;p20;w03;aw0120;as5;";
        for (int minute : new int[] {59, 60, 98, 99}) {
            Bounds late = new Bounds(DUE, () -> {
                SmellHowLong x = Towns.at(minute, text);
                x.put(0, 0);
                x.put(1, 4);
                return x;
            });
            // From 0 he goes where the plan's place of that minute tells: 1, 2, 0, 1, ..
            int room = 0;
            for (int n = 0; n <= 40; n++) {
                int want = room;
                int minutes = n;
                late.still("behind(0, " + n + ") in " + minute, x -> x.behind(0, minutes), want);
                late.still("freshest(5, " + n + ") in " + minute, x -> x.freshest(5, minutes), n / 2);
                room = "120".charAt((minute + n) % 3) - '0';
            }
            late.refused("behind(0, 41) in " + minute, x -> x.behind(0, 41), -6);
            late.refused("freshest(5, 41) in " + minute, x -> x.freshest(5, 41), -6);
            late.refused("scented(41) in " + minute, x -> x.scented(41), -6);
            late.still("scented(40) in " + minute, x -> x.scented(40), 0);
        }
    }

    /** "-1 either (one twice, too)." */
    private static void meetWhom() {
        for (int walker : new int[] {-1, 3, MIN, MAX}) {
            BUSY.refused("meet(" + walker + ", 0)", x -> x.meet(walker, 0), -1);
            BUSY.refused("meet(0, " + walker + ")", x -> x.meet(0, walker), -1);
            BUSY.refused("meet(" + walker + " twice)", x -> x.meet(walker, walker), -1);
        }
        for (int walker = 0; walker <= 3; walker++) {
            int w = walker;
            FULL.refused("meet(" + w + " twice)", x -> x.meet(w, w), -1);
            FULL.refused("meet(" + w + ", 4)", x -> x.meet(w, 4), -1);
            FULL.refused("meet(4, " + w + ")", x -> x.meet(4, w), -1);
        }
        NEW.refused("meet(0, 1)", x -> x.meet(0, 1), -1);
        FULL.still("meet(0, 3)", x -> x.meet(0, 3), -9);
        FULL.still("meet(3, 0)", x -> x.meet(3, 0), -9);
    }

    /** "behind how many MINUTES (0 .. 40) two are in one ROOM; -9." */
    private static void meetBehindNoughtTo40() {
        Bounds beside = new Bounds(DUE, () -> Due.town("p01;aw01;aw0;ac5;"));
        beside.still("now", x -> x.meet(0, 1), 0);
        beside.still("never", x -> x.meet(0, 2), -9);
        new Bounds(DUE, () -> Due.town("p01;aw01;aw1;")).still("in a minute", x -> x.meet(1, 0), 1);
        new Bounds(DUE, () -> Due.town("p01;aw010;aw101;")).still("they change places", x -> x.meet(0, 1), -9);
        for (int minutes : new int[] {1, 2, 37, 38}) {
            Bounds slow = new Bounds(DUE, () -> Due.slowFollower(minutes));
            slow.still("meet behind " + (minutes + 2), x -> x.meet(2, 3), minutes + 2);
            slow.still("meet behind " + (minutes + 2), x -> x.meet(3, 2), minutes + 2);
        }
        new Bounds(DUE, () -> Due.slowFollower(39)).still("meet behind 41", x -> x.meet(2, 3), -9);
        SmellHowLong sooner = Due.slowFollower(39);
        sooner.pass(1);
        DUE.is("a minute later", sooner.meet(2, 3), 40);
    }

    /** "-4; -6 40." */
    private static void scentedWhen() {
        for (int n : new int[] {-1, MIN}) {
            BUSY.refused("scented(" + n + ")", x -> x.scented(n), -4);
            NEW.refused("scented(" + n + ")", x -> x.scented(n), -4);
        }
        for (int n : new int[] {41, 99, MAX}) {
            BUSY.refused("scented(" + n + ")", x -> x.scented(n), -6);
            NEW.refused("scented(" + n + ")", x -> x.scented(n), -6);
        }
        NEW.still("scented(0)", x -> x.scented(0), 0);
        NEW.still("scented(40)", x -> x.scented(40), 0);
    }

    /** "WALKERS (bits) in whose ROOM there is, behind n MINUTES, a TRACE of another one." */
    private static void scentedOfNoneToAll() {
        FULL.still("each alone", x -> x.scented(0), 0);
        FULL.still("each alone", x -> x.scented(40), 0);
        Bounds together = new Bounds(DUE, () -> Due.town("aw0;al0;as0;af0;"));
        together.still("all", x -> x.scented(0), 15);
        together.still("all", x -> x.scented(40), 15);
        Bounds clean = new Bounds(DUE, () -> Due.town("ac0;ac0;ac0;aw0;"));
        clean.still("his own is none of another", x -> x.scented(0), 7);
        clean.still("his own is none of another", x -> x.scented(40), 7);
        Bounds away = new Bounds(DUE, () -> {
            SmellHowLong x = Due.town("aw0;ac0;aw5;aw5;");
            x.put(0, 3);
            x.put(2, 4);
            return x;
        });
        away.still("the trace stays", x -> x.scented(0), 2 + 8);
        away.still("the trace stays", x -> x.scented(40), 2 + 8);
        Bounds comes = new Bounds(DUE, () -> Due.town("p01;aw01;ac1;"));
        comes.still("he is not there yet", x -> x.scented(0), 0);
        comes.still("he comes", x -> x.scented(1), 2);
    }
}
