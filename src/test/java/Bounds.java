import java.util.ArrayList;
import java.util.List;
import java.util.function.Supplier;
import java.util.function.ToIntFunction;

/**
 * One call at a bound, on an object made for it alone: what it answers, what is counted of the
 * refusals behind it, and, against a twin that was never asked, what has not changed.
 */
final class Bounds {
    private final Due due;
    private final Supplier<SmellHowLong> made;

    Bounds(Due due, Supplier<SmellHowLong> made) {
        this.due = due;
        this.made = made;
    }

    /** The call is refused with this number: it is counted once, and nothing else changes. */
    void refused(String call, ToIntFunction<SmellHowLong> ask, int number) {
        SmellHowLong x = made.get();
        SmellHowLong twin = made.get();
        due.is(call, ask.applyAsInt(x), number);
        sameRefusals(call, x, twin, number);
        same(call, x, twin);
    }

    /** The call is answered, no refusal is counted, and nothing changes by it. */
    void still(String call, ToIntFunction<SmellHowLong> ask, int want) {
        SmellHowLong x = made.get();
        SmellHowLong twin = made.get();
        due.is(call, ask.applyAsInt(x), want);
        sameRefusals(call, x, twin, 0);
        same(call, x, twin);
    }

    /** The call is taken: it is answered and no refusal is counted. The object, to look further. */
    SmellHowLong taken(String call, ToIntFunction<SmellHowLong> ask, int want) {
        SmellHowLong x = made.get();
        due.is(call, ask.applyAsInt(x), want);
        sameRefusals(call, x, made.get(), 0);
        return x;
    }

    private void sameRefusals(String call, SmellHowLong x, SmellHowLong twin, int oneMore) {
        for (int number = -1; number >= -6; number--) {
            int want = twin.count(10 - number) + (number == oneMore ? 1 : 0);
            due.is(call + ", then count(" + (10 - number) + ")", x.count(10 - number), want);
        }
    }

    /** All that can be seen of the two, and then what the row, the letters and the image hold. */
    private void same(String call, SmellHowLong x, SmellHowLong twin) {
        sameSight(call, x, twin);
        for (int n = 0; n <= 8; n++) {
            due.is(call + ", then walked(" + n + ")", x.walked(n), twin.walked(n));
        }
        due.is(call + ", then judge()", x.judge(), twin.judge());
        due.is(call + ", then town()", x.town(), twin.town());
        sameSight(call + ", then town()", x, twin);
        due.is(call + ", then on()", x.on(), twin.on());
        sameSight(call + ", then on()", x, twin);
    }

    void sameSight(String call, SmellHowLong x, SmellHowLong twin) {
        List<Integer> got = sight(x);
        List<Integer> want = sight(twin);
        due.is(call + ": much to see", got.size(), want.size());
        for (int i = 0; i < Math.min(got.size(), want.size()); i++) {
            due.is(call + ": sight " + i, got.get(i), want.get(i));
        }
    }

    /** Some hundred calls, none of them refused: few enough for three sights of one object. */
    private static List<Integer> sight(SmellHowLong x) {
        List<Integer> seen = new ArrayList<>();
        for (int what = 0; what <= 6; what++) {
            seen.add(x.count(what));
        }
        for (int room = 0; room < 6; room++) {
            for (int what = 0; what <= 2; what++) {
                seen.add(x.room(room, what));
            }
            for (int what = 0; what <= 3; what++) {
                seen.add(x.smelt(room, what));
            }
        }
        for (int walker = 0; walker < seen.get(0); walker++) {
            for (int what = 0; what <= 3; what++) {
                seen.add(x.walker(walker, what));
            }
            for (int room = 0; room < 6; room++) {
                seen.add(x.age(walker, room));
            }
        }
        return seen;
    }
}
