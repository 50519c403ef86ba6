/** The bounds that the document names of letters, towns, rooms and walkers: promises 1 to 5, 'Terms'. */
public final class BoundsOfTownsTest {
    private static final Due DUE = new Due("BoundsOfTownsTest");
    private static final Bounds BUSY = new Bounds(DUE, Towns::busy);
    private static final Bounds UNTOLD = new Bounds(DUE, Towns::busyWithoutLetters);
    private static final Bounds NEW = new Bounds(DUE, SmellHowLong::new);
    private static final Bounds FULL = new Bounds(DUE, Towns::full);
    private static final int MIN = Integer.MIN_VALUE;
    private static final int MAX = Integer.MAX_VALUE;
    private static final String DIGITS = "0123456789";
    private static final String HEADS = "pwran";

    public static void main(String[] args) {
        aNewObject();
        lettersOfNoughtTo255();
        ninetySixLetters();
        refusedLettersAreNotInTheText();
        lettersAreNoMore();
        lettersThatGoOn();
        whereSomethingLacks();
        aSeventhRoomOfAPlan();
        aLetterIsToldAheadOfAStatement();
        numbersOfStatements();
        pathsFromARoomToItself();
        noRoomForMore();
        theFirstStatementThatIsWrong();
        greatestPlaces();
        fewestAndMostStatements();
        withAFaultNothing();
        toldAgain();
        whoComesLeavesOneAtOnce();
        roomsAsked();
        walkersAsked();
        DUE.end();
    }

    /** "Six ROOMS, nobody."; WIND 0, no ROOF, no PATHS, MINUTE 0, NOSE 1 at first. */
    private static void aNewObject() {
        NEW.still("count(0)", x -> x.count(0), 0);
        NEW.still("count(1)", x -> x.count(1), 0);
        NEW.still("count(2)", x -> x.count(2), 0);
        NEW.still("count(3)", x -> x.count(3), 1);
        NEW.still("count(4)", x -> x.count(4), 0);
        NEW.still("count(5)", x -> x.count(5), 0);
        NEW.still("count(6)", x -> x.count(6), 0);
        for (int room = 0; room < 6; room++) {
            int r = room;
            for (int what = 0; what <= 2; what++) {
                int w = what;
                NEW.still("room(" + r + ", " + w + ")", x -> x.room(r, w), 0);
            }
        }
        NEW.refused("room(6, 0)", x -> x.room(6, 0), -1);
        NEW.refused("walker(0, 0)", x -> x.walker(0, 0), -1);
        NEW.refused("on()", x -> x.on(), -3);
        DUE.refusals(new SmellHowLong(), 0, 0, 0, 0, 0, 0);
        new SmellHowLong().letter('p');
        NEW.still("another object's letters", x -> x.count(6), 0);
    }

    /** "A letter (0 .. 255) comes"; "-4; -6 (255 ..". */
    private static void lettersOfNoughtTo255() {
        DUE.is("count(6)", BUSY.taken("letter(0)", x -> x.letter(0), 3).count(6), 3);
        DUE.is("count(6)", BUSY.taken("letter(255)", x -> x.letter(255), 3).count(6), 3);
        NEW.taken("letter(0)", x -> x.letter(0), 1);
        NEW.taken("letter(255)", x -> x.letter(255), 1);
        BUSY.refused("letter(-1)", x -> x.letter(-1), -4);
        BUSY.refused("letter(256)", x -> x.letter(256), -6);
        BUSY.refused("letter(MIN)", x -> x.letter(MIN), -4);
        BUSY.refused("letter(MAX)", x -> x.letter(MAX), -6);
        // 'p' and 256: no letter that goes on, but one too many of them.
        BUSY.refused("letter(368)", x -> x.letter(256 + 'p'), -6);
    }

    private static SmellHowLong withLetters(String text) {
        SmellHowLong x = new SmellHowLong();
        Towns.letters(x, text);
        return x;
    }

    /** "told in letters, one by one (96 at most)"; "-6 (255; 96, too)". */
    private static void ninetySixLetters() {
        String text = "n2;".repeat(32);
        Bounds ninetyFive = new Bounds(DUE, () -> withLetters(text.substring(0, 95)));
        DUE.is("town()", ninetyFive.taken("the 96th letter", x -> x.letter(';'), 96).town(), 32);
        ninetyFive.refused("a 96th letter of 256", x -> x.letter(256), -6);
        ninetyFive.refused("a 96th letter of -1", x -> x.letter(-1), -4);
        Bounds ninetySix = new Bounds(DUE, () -> withLetters(text));
        ninetySix.still("count(6)", x -> x.count(6), 96);
        ninetySix.refused("the 97th letter", x -> x.letter('n'), -6);
        ninetySix.refused("the 97th letter, 0", x -> x.letter(0), -6);
        ninetySix.refused("the 97th letter, -1", x -> x.letter(-1), -4);
        ninetySix.refused("the 97th letter, 256", x -> x.letter(256), -6);
        DUE.is("count(3)", ninetySix.taken("town()", x -> x.town(), 32).count(3), 2);
        SmellHowLong again = withLetters(text);
        again.town();
        again.letter('n');
        DUE.is("96 more", Due.tell(again, "3;" + text.substring(3)), 32);
        DUE.is("count(6)", again.count(6), 0);
    }

    private static void refusedLettersAreNotInTheText() {
        SmellHowLong x = withLetters("p0");
        x.letter(-1);
        x.letter(256);
        x.letter(256 + '1');
        Towns.letters(x, "1;");
        DUE.is("count(6)", x.count(6), 4);
        DUE.is("town()", x.town(), 1);
        DUE.is("room(0, 2)", x.room(0, 2), 2);
        DUE.refusals(x, 0, 0, 0, 1, 0, 2);
    }

    /** "The letters become a TOWN, and are no more (with a FAULT neither)". */
    private static void lettersAreNoMore() {
        for (String text : new String[] {"", "x", "p", "p00;", "n0;", "n1;", "p01;w11;"}) {
            SmellHowLong x = withLetters(text);
            x.town();
            DUE.is(text + ": count(6)", x.count(6), 0);
            DUE.is(text + ": town() again", x.town(), -1000);
            DUE.is(text + ": letter('n')", x.letter('n'), 1);
            DUE.is(text + ": town()", Due.tell(x, "4;"), 1);
            DUE.is(text + ": count(3)", x.count(3), 4);
            DUE.refusals(x, 0, 0, 0, 0, 0, 0);
        }
    }

    /** Of all letters 0 .. 255 only these go on behind a text, so only they tell no place of a FAULT. */
    private static void goOn(String ahead, String letters) {
        int place = ahead.length();
        for (int c = 0; c <= 255; c++) {
            SmellHowLong x = withLetters(ahead);
            x.letter(c);
            int answer = x.town();
            String call = "town of " + ahead + " and " + c;
            if (letters.indexOf(c) < 0) {
                DUE.is(call, answer, -1000 - place);
            } else if (c == ';') {
                DUE.is(call, answer, (ahead + ';').split(";").length);
            } else {
                DUE.is(call, answer, -1000 - (place + 1));
            }
        }
    }

    /** "the place of the first letter with which no TOWN can go on". */
    private static void lettersThatGoOn() {
        goOn("", HEADS);
        goOn("p", DIGITS);
        goOn("p0", DIGITS);
        goOn("p01", ";");
        goOn("p01;", HEADS);
        goOn("w", DIGITS);
        goOn("w0", DIGITS);
        goOn("w01", ";");
        goOn("w01;", HEADS);
        goOn("r", DIGITS);
        goOn("r0", ";");
        goOn("r0;", HEADS);
        goOn("n", DIGITS);
        goOn("n1", ";");
        goOn("n1;", HEADS);
        goOn("a", "wlfsbc");
        for (String kind : "w l f s b c".split(" ")) {
            goOn("a" + kind, DIGITS);
            goOn("a" + kind + "0", DIGITS + ";");
            goOn("a" + kind + "012345", DIGITS + ";");
            goOn("a" + kind + "0123450", ";");
            goOn("a" + kind + "0;", HEADS);
        }
    }

    /** "(the end, if something lacks)"; "At least one STATEMENT"; "each with ; behind". */
    private static void whereSomethingLacks() {
        String text = "p01;w23;r4;as501234;n9;ac0;";
        int statements = 0;
        for (int end = 0; end <= text.length(); end++) {
            String begun = text.substring(0, end);
            boolean whole = begun.endsWith(";");
            statements += whole ? 1 : 0;
            NEW.taken("town of " + begun, x -> Due.tell(x, begun), whole ? statements : -1000 - end);
        }
        UNTOLD.still("town() of no letter", x -> x.town(), -1000);
        UNTOLD.still("town of ; alone", x -> Due.tell(x, ";"), -1000);
        UNTOLD.still("town of a ; more", x -> Due.tell(x, "n1;;"), -1003);
    }

    /** "a PLAN (0 .. 6 ROOMS)"; "a seventh ROOM of a PLAN is one". */
    private static void aSeventhRoomOfAPlan() {
        for (int rooms = 0; rooms <= 6; rooms++) {
            String text = "aw5" + "543210".substring(0, rooms) + ";";
            SmellHowLong x = NEW.taken("town of " + text, y -> Due.tell(y, text), 1);
            DUE.is("walker(0, 2)", x.walker(0, 2), rooms);
        }
        UNTOLD.still("a seventh", x -> Due.tell(x, "aw01234501;"), -1009);
        UNTOLD.still("a seventh out of range", x -> Due.tell(x, "aw01234509;"), -1009);
        UNTOLD.still("a seventh in a second", x -> Due.tell(x, "aw0;al01234501;"), -1013);
        UNTOLD.still("a seventh and an eighth", x -> Due.tell(x, "aw012345012;"), -1009);
        UNTOLD.still("no room told", x -> Due.tell(x, "aw;"), -1002);
    }

    /** "kind 1 ..; else kind 2". */
    private static void aLetterIsToldAheadOfAStatement() {
        UNTOLD.still("p00;n", x -> Due.tell(x, "p00;n"), -1005);
        UNTOLD.still("n0;x", x -> Due.tell(x, "n0;x"), -1003);
        UNTOLD.still("w64;p66;r7", x -> Due.tell(x, "w64;p66;r7"), -1010);
        UNTOLD.still("p00;n1;", x -> Due.tell(x, "p00;n1;"), -2000);
    }

    /** Each digit in a place of a STATEMENT: those of the range are taken, the others are FAULTS. */
    private static void digits(String ahead, String behind, int least, int most) {
        for (int digit = 0; digit <= 9; digit++) {
            String text = "n1;" + ahead + digit + behind;
            boolean isTaken = digit >= least && digit <= most;
            SmellHowLong x = withLetters(text);
            DUE.is("town of " + text, x.town(), isTaken ? 2 : -2003);
            DUE.refusals(x, 0, 0, 0, 0, 0, 0);
        }
    }

    /** "kind 2 .. not as it must be (a number out of range ..": ROOMS 0 .. 5, WIND 0 .. 3, NOSE 1 .. 9. */
    private static void numbersOfStatements() {
        digits("p", "5;", 0, 4);
        digits("p", "0;", 1, 5);
        digits("p5", ";", 0, 4);
        digits("p0", ";", 1, 5);
        digits("w", "0;", 0, 5);
        digits("w", "3;", 0, 5);
        digits("w0", ";", 0, 3);
        digits("w5", ";", 0, 3);
        digits("r", ";", 0, 5);
        digits("n", ";", 1, 9);
        for (String kind : "w l f s b c".split(" ")) {
            digits("a" + kind, ";", 0, 5);
            digits("a" + kind, "012345;", 0, 5);
            for (int place = 1; place <= 6; place++) {
                digits("a" + kind + "0".repeat(place), ";", 0, 5);
                digits("a" + kind + "0".repeat(place), "0".repeat(6 - place) + ";", 0, 5);
            }
        }
        DUE.is("count(3)", Due.town("n1;").count(3), 1);
        DUE.is("count(3)", Due.town("n9;").count(3), 9);
        DUE.is("room(5, 0)", Due.town("w53;").room(5, 0), 3);
        DUE.is("room(5, 0)", Due.town("w53;w50;").room(5, 0), 0);
    }

    /** "PATHS between two unlike ROOMS"; "a PATH from a ROOM to itself". */
    private static void pathsFromARoomToItself() {
        for (int one = 0; one <= 5; one++) {
            for (int other = 0; other <= 5; other++) {
                String text = "p" + one + other + ";";
                SmellHowLong x = withLetters(text);
                DUE.is("town of " + text, x.town(), one == other ? -2000 : 1);
                DUE.is(text + " count(1)", x.count(1), one == other ? 0 : 1);
                DUE.is(text + " room(" + one + ", 2)", x.room(one, 2), one == other ? 0 : 1 << other);
                DUE.is(text + " room(" + other + ", 2)", x.room(other, 2), one == other ? 0 : 1 << one);
            }
        }
        UNTOLD.still("p33;", x -> Due.tell(x, "p33;"), -2000);
    }

    /** "WALKERS 0 .. 3 as they come (4 at most)"; "no room for more". */
    private static void noRoomForMore() {
        SmellHowLong four = NEW.taken("four", x -> Due.tell(x, "aw0;al1;as2;ac3;"), 4);
        DUE.is("count(0)", four.count(0), 4);
        for (int walker = 0; walker < 4; walker++) {
            DUE.is("the place of walker " + walker, four.walker(walker, 1), walker);
        }
        NEW.still("five", x -> Due.tell(x, "aw0;al1;as2;ac3;af4;"), -2016);
        FULL.still("a fifth in a later text", x -> Due.tell(x, "af4;"), -2000);
        FULL.still("a fifth behind another statement", x -> Due.tell(x, "n7;af4;"), -2003);
        FULL.still("a fifth that is wrong besides", x -> Due.tell(x, "af6;"), -2000);
        SmellHowLong later = FULL.taken("no more of them is no fault", x -> Due.tell(x, "n7;r1;"), 2);
        DUE.is("count(0)", later.count(0), 4);
        // Three are there already.
        DUE.is("count(0)", UNTOLD.taken("a fourth", x -> Due.tell(x, "ab4;"), 1).count(0), 4);
        UNTOLD.still("a fourth and a fifth", x -> Due.tell(x, "ab4;ac5;"), -2004);
        SmellHowLong fifteen = NEW.taken("all paths", x -> Due.tell(x, Towns.ALL_PATHS), 15);
        DUE.is("count(1)", fifteen.count(1), 15);
    }

    /** "the place of the first letter of the first STATEMENT that, behind all ahead of it .." */
    private static void theFirstStatementThatIsWrong() {
        UNTOLD.still("the first of two", x -> Due.tell(x, "n0;p00;"), -2000);
        UNTOLD.still("the second of three", x -> Due.tell(x, "n2;p00;n0;"), -2003);
        UNTOLD.still("the last", x -> Due.tell(x, "n2;p45;aw012345;r6;"), -2016);
        NEW.still("a fifth ahead of a wrong one", x -> Due.tell(x, "aw0;aw0;aw0;aw0;aw0;n0;"), -2016);
        NEW.still("a wrong one ahead of a fifth", x -> Due.tell(x, "aw0;aw0;aw0;aw0;n0;aw0;"), -2016);
        NEW.still("a fourth that is wrong", x -> Due.tell(x, "aw0;aw0;aw0;aw6;aw0;"), -2012);
    }

    /** "-1000 less the place"; "-2000 less the place": the least of these numbers. */
    private static void greatestPlaces() {
        String almost = "n2;".repeat(31);
        UNTOLD.still("the 96th letter", x -> Due.tell(x, almost + "n1x"), -1095);
        UNTOLD.still("behind the 96th letter", x -> Due.tell(x, almost + "p01"), -1096);
        UNTOLD.still("behind the 95th letter", x -> Due.tell(x, almost + "p0"), -1095);
        UNTOLD.still("the last statement", x -> Due.tell(x, almost + "n0;"), -2093);
        UNTOLD.still("the first letter", x -> Due.tell(x, "x" + almost), -1000);
        UNTOLD.still("the first statement", x -> Due.tell(x, "n0;" + almost), -2000);
    }

    /** "how many STATEMENTS": 1 .. 32 in 96 letters. */
    private static void fewestAndMostStatements() {
        UNTOLD.taken("one", x -> Due.tell(x, "r0;"), 1);
        UNTOLD.taken("thirty-two", x -> Due.tell(x, "r0;n4;".repeat(16)), 32);
        UNTOLD.taken("twenty-four", x -> Due.tell(x, "w01;".repeat(24)), 24);
    }

    /** "Without FAULT all of it comes, with one nothing."; "the FAULT (nothing is counted)". */
    private static void withAFaultNothing() {
        String all = "p04;p45;w02;w50;r0;r4;n7;ab3210;";
        SmellHowLong x = UNTOLD.taken(all, y -> Due.tell(y, all), 8);
        DUE.is("count(0)", x.count(0), 4);
        DUE.is("count(1)", x.count(1), 5);
        DUE.is("count(3)", x.count(3), 7);
        DUE.is("room(0, 0)", x.room(0, 0), 2);
        DUE.is("room(0, 1)", x.room(0, 1), 1);
        DUE.is("room(4, 1)", x.room(4, 1), 0);
        DUE.is("room(4, 2)", x.room(4, 2), 1 + 32);
        DUE.is("walker(3, 2)", x.walker(3, 2), 3);
        DUE.is("age(3, 3)", x.age(3, 3), 0);
        UNTOLD.still("a fault of kind 1 at the end", y -> Due.tell(y, all + "x"), -1000 - all.length());
        UNTOLD.still("something lacks at the end", y -> Due.tell(y, all + "p0"), -1002 - all.length());
        UNTOLD.still("a fault of kind 2 at the end", y -> Due.tell(y, all + "w04;"), -2000 - all.length());
        UNTOLD.still("no room at the end", y -> Due.tell(y, all + "aw0;"), -2000 - all.length());
        UNTOLD.still("a fault of kind 2 ahead", y -> Due.tell(y, "p11;" + all), -2000);
    }

    /** "a PATH (told again: none)"; "a ROOF (told again: none)". */
    private static void toldAgain() {
        for (int times = 1; times <= 6; times++) {
            String paths = "p25;".repeat(times);
            String bothEnds = "p25;p52;".repeat(3).substring(0, 4 * times);
            String roofs = "r5;".repeat(times);
            int there = times % 2;
            int told = times;
            SmellHowLong x = NEW.taken(paths, y -> Due.tell(y, paths), told);
            DUE.is(paths + " count(1)", x.count(1), there);
            DUE.is(paths + " room(2, 2)", x.room(2, 2), there * 32);
            DUE.is(paths + " room(5, 2)", x.room(5, 2), there * 4);
            x = NEW.taken(bothEnds, y -> Due.tell(y, bothEnds), told);
            DUE.is(bothEnds + " count(1)", x.count(1), there);
            x = NEW.taken(roofs, y -> Due.tell(y, roofs), told);
            DUE.is(roofs + " room(5, 1)", x.room(5, 1), there);
            SmellHowLong texts = new SmellHowLong();
            for (int text = 0; text < times; text++) {
                Due.tell(texts, "p25;r5;");
            }
            DUE.is("count(1) of " + times + " texts", texts.count(1), there);
            DUE.is("room(5, 1) of " + times + " texts", texts.room(5, 1), there);
        }
        // All paths told again, one by one, till there are none.
        SmellHowLong x = Due.town(Towns.ALL_PATHS);
        DUE.is("all again", Due.tell(x, Towns.ALL_PATHS), 15);
        DUE.is("count(1)", x.count(1), 0);
        // A WIND and a NOSE told again stay what they are told to be.
        DUE.is("room(1, 0)", Due.town("w13;w13;").room(1, 0), 3);
        DUE.is("count(3)", Due.town("n5;n5;").count(3), 5);
    }

    /** "who comes into the TOWN leaves one at once, of the MINUTE it is, LIGHT ones too, CLEAN ones none". */
    private static void whoComesLeavesOneAtOnce() {
        for (int minute : new int[] {0, 1, 99}) {
            for (String kind : "w l f s b c".split(" ")) {
                SmellHowLong x = new SmellHowLong();
                Towns.goTo(x, minute);
                Due.tell(x, "a" + kind + "4321;");
                boolean leaves = !kind.equals("c");
                DUE.is(kind + " age(0, 4)", x.age(0, 4), leaves ? 0 : -9);
                DUE.is(kind + " count(4)", x.count(4), leaves ? 1 : 0);
            }
        }
    }

    /** "Of a ROOM .. -1; -2." */
    private static void roomsAsked() {
        for (int room : new int[] {-1, 6, MIN, MAX}) {
            BUSY.refused("room(" + room + ", 0)", x -> x.room(room, 0), -1);
            BUSY.refused("room(" + room + ", 3)", x -> x.room(room, 3), -1);
        }
        for (int what : new int[] {-1, 3, MIN, MAX}) {
            BUSY.refused("room(0, " + what + ")", x -> x.room(0, what), -2);
            BUSY.refused("room(5, " + what + ")", x -> x.room(5, what), -2);
        }
        BUSY.still("room(0, 0)", x -> x.room(0, 0), 0);
        BUSY.still("room(3, 0)", x -> x.room(3, 0), 3);
        BUSY.still("room(5, 0)", x -> x.room(5, 0), 0);
        BUSY.still("room(4, 1)", x -> x.room(4, 1), 1);
        BUSY.still("room(5, 1)", x -> x.room(5, 1), 0);
        BUSY.still("room(1, 2)", x -> x.room(1, 2), 1 + 4);
        BUSY.still("room(5, 2)", x -> x.room(5, 2), 0);
        for (int room = 0; room <= 5; room++) {
            int r = room;
            FULL.still("to all but itself", x -> x.room(r, 2), 63 - (1 << r));
        }
    }

    /** "Of a WALKER .. -1; -2." */
    private static void walkersAsked() {
        for (int walker : new int[] {-1, 3, MIN, MAX}) {
            BUSY.refused("walker(" + walker + ", 0)", x -> x.walker(walker, 0), -1);
            BUSY.refused("walker(" + walker + ", 4)", x -> x.walker(walker, 4), -1);
        }
        for (int what : new int[] {-1, 4, MIN, MAX}) {
            BUSY.refused("walker(0, " + what + ")", x -> x.walker(0, what), -2);
            BUSY.refused("walker(2, " + what + ")", x -> x.walker(2, what), -2);
        }
        FULL.still("walker(3, 0)", x -> x.walker(3, 0), 5);
        FULL.refused("walker(4, 0)", x -> x.walker(4, 0), -1);
        NEW.refused("walker(0, 9)", x -> x.walker(0, 9), -1);
        BUSY.still("walker(2, 0)", x -> x.walker(2, 0), 2);
        BUSY.still("walker(1, 1)", x -> x.walker(1, 1), 5);
        BUSY.still("walker(0, 2)", x -> x.walker(0, 2), 3);
        BUSY.still("walker(2, 2)", x -> x.walker(2, 2), 0);
        BUSY.still("walker(1, 3)", x -> x.walker(1, 3), 5);
        int kind = 0;
        for (String letter : "w l f s b c".split(" ")) {
            DUE.is(letter, Due.town("a" + letter + "0;").walker(0, 0), kind);
            kind++;
        }
    }
}
