/** Promises 26 to 29: walkers by seeds, the image, on from it, what is counted. */
public final class ImageTest {
    private static final Due DUE = new Due("ImageTest");

    public static void main(String[] args) {
        seeds();
        image();
        imageOfLater();
        counts();
        DUE.end();
    }

    private static int draw(int z) {
        return (int) ((z & 0x7fffffffL) / 256 % 6);
    }

    private static void seeds() {
        SmellHowLong x = Due.town("aw0;");
        for (int z : new int[] {0, 1, -1, 7, Integer.MIN_VALUE, Integer.MAX_VALUE, 123456789, -987654321}) {
            int next = z * 1664525 + 1013904223;
            for (int room = 0; room < 6; room++) {
                // He left a trace in 0 at first, and leaves one where he is drawn to.
                int want = room == 0 || room == draw(next) ? 1 : 0;
                DUE.is("seeds(1, " + z + ", " + room + ")", x.seeds(1, z, room), want);
            }
        }
        // Two in one room, drawn one behind the other.
        SmellHowLong two = Due.town("aw0;aw0;");
        two.rain();
        for (int z = 0; z < 30; z++) {
            int first = z * 1664525 + 1013904223;
            int second = first * 1664525 + 1013904223;
            int third = second * 1664525 + 1013904223;
            int fourth = third * 1664525 + 1013904223;
            int room = draw(first);
            DUE.is("seeds(1, " + z + ")", two.seeds(1, z, room), 1);
            room = draw(second);
            // The second's trace of a minute ago there, if he is elsewhere, and the first's fresh one.
            if (draw(fourth) != room) {
                int want = draw(third) == room ? 2 : 1;
                DUE.is("seeds(2, " + z + ")", two.seeds(2, z, room), want);
            }
        }
        SmellHowLong apart = Due.town("aw0;n9;");
        apart.put(0, 1);
        apart.pass(8);
        Due.tell(apart, "ac5;");
        apart.rain();
        Due.tell(apart, "aw0;");
        apart.put(2, 1);
        for (int n = 1; n <= 30; n++) {
            DUE.is("seeds(" + n + ", 3, 0)", apart.seeds(n, 3, 0), seededApart(n));
        }
        DUE.is("seeds(30, 5, 0)", Due.town("aw0;").seeds(30, 5, 0), 1);
        DUE.is("nobody", new SmellHowLong().seeds(30, 5, 0), 0);
        DUE.is("seeds(0, 0, 6)", x.seeds(0, 0, 6), -1);
        DUE.is("seeds(31, 0, -1)", x.seeds(31, 0, -1), -1);
        DUE.is("seeds(0, 0, 0)", x.seeds(0, 0, 0), -4);
        DUE.is("seeds(-5, 0, 0)", x.seeds(-5, 0, 0), -4);
        DUE.is("seeds(31, 0, 0)", x.seeds(31, 0, 0), -6);
        DUE.refusals(x, 2, 0, 0, 2, 0, 1);
        DUE.is("nothing went by", x.count(2), 0);
        DUE.is("he stands", x.walker(0, 1), 0);
        DUE.is("no trace more", x.count(4), 1);
    }

    /** Walkers 0 (from 1) and 2 (from 1, a trace in 0), with a clean one drawn between them. */
    private static int seededApart(int n) {
        int z = 3;
        int[] left = {-99, 0};
        for (int minute = 1; minute <= n; minute++) {
            for (int walker = 0; walker < 3; walker++) {
                z = z * 1664525 + 1013904223;
                if (draw(z) == 0 && walker != 1) {
                    left[walker / 2] = minute;
                }
            }
        }
        return left[0] >= 0 && (n - left[0]) / 9 != (n - left[1]) / 9 ? 2 : 1;
    }

    private static void image() {
        SmellHowLong x = Due.town("p01;w12;r2;n3;aw01;af1;");
        x.pass(2);
        x.row(7);
        DUE.is("on()", x.on(), -3);
        DUE.is("image()", x.image(), 2);
        int place = x.walker(0, 1);
        int follower = x.walker(1, 1);
        int age = x.age(0, 0);
        Due.tell(x, "p12;w11;w01;r0;n9;al5;");
        x.put(0, 4);
        x.rain();
        x.pass(5);
        x.row(8);
        x.letter('p');
        x.put(9, 9);
        for (int again = 0; again < 2; again++) {
            DUE.is("on()", x.on(), 2);
            DUE.is("minute", x.count(2), 2);
            DUE.is("walkers", x.count(0), 2);
            DUE.is("paths", x.count(1), 1);
            DUE.is("nose", x.count(3), 3);
            DUE.is("traces", x.count(4), 4);
            DUE.is("wind", x.room(1, 0), 2);
            DUE.is("wind", x.room(0, 0), 0);
            DUE.is("roof", x.room(0, 1), 0);
            DUE.is("roof", x.room(2, 1), 1);
            DUE.is("path", x.room(1, 2), 1);
            DUE.is("place", x.walker(0, 1), place);
            DUE.is("place", x.walker(1, 1), follower);
            DUE.is("kind", x.walker(1, 0), 2);
            DUE.is("plan", x.walker(0, 2), 1);
            DUE.is("age", x.age(0, 0), age);
            DUE.is("the row stays", x.count(5), 2);
            DUE.is("the letters stay", x.count(6), 1);
            x.pass(1);
            x.put(1, 5);
        }
        DUE.refusals(x, 1, 0, 1, 0, 0, 0);
    }

    private static void imageOfLater() {
        SmellHowLong x = new SmellHowLong();
        DUE.is("image()", x.image(), 0);
        x.pass(1);
        Due.tell(x, "aw0;");
        DUE.is("image()", x.image(), 1);
        x.pass(1);
        DUE.is("on()", x.on(), 1);
        DUE.is("walkers", x.count(0), 1);
        Due.tell(x, "as1012;");
        x.image();
        x.on();
        DUE.is("plan", x.walker(1, 2), 3);
        SmellHowLong again = Due.town("aw0;");
        again.image();
        Due.tell(again, "aw1234;");
        again.on();
        Due.tell(again, "al2;");
        DUE.is("no plan of one who is no more", again.walker(1, 2), 0);
        DUE.is("no trace of one who is no more", again.age(1, 1), -9);
        DUE.is("traces", again.count(4), 2);
        SmellHowLong fresh = new SmellHowLong();
        DUE.is("another object has none", fresh.on(), -3);
    }

    private static void counts() {
        SmellHowLong x = Due.town("p01;p02;p12;aw0;al1;ac2;n6;");
        x.pass(3);
        x.row(1);
        x.letter('a');
        x.letter('w');
        int[] wants = {3, 3, 3, 6, 2, 1, 2};
        for (int what = 0; what < wants.length; what++) {
            DUE.is("count(" + what + ")", x.count(what), wants[what]);
        }
        for (int what : new int[] {-1, 7, 8, 9, 10, 17, 18, Integer.MIN_VALUE, Integer.MAX_VALUE}) {
            DUE.is("count(" + what + ")", x.count(what), -9);
        }
        DUE.refusals(x, 0, 0, 0, 0, 0, 0);
        x.room(6, 0);
        x.room(0, 9);
        x.room(0, 9);
        x.walked(1);
        x.on();
        x.walked(0);
        x.row(-1);
        x.nose(0);
        x.nose(0);
        x.nose(-1);
        x.nose(10);
        x.row(31);
        x.pass(41);
        x.scented(41);
        x.wind(0, 4);
        DUE.refusals(x, 1, 2, 3, 4, 0, 5);
    }
}
