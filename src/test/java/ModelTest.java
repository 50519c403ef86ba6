import java.util.Random;

/** Random runs of calls, each answered by the class and by the slow program alike. */
public final class ModelTest {
    private static final Due DUE = new Due("ModelTest");
    private static final int RUNS = 1500;
    private static final int CALLS = 120;

    private final Random random;
    private final SmellHowLong x = new SmellHowLong();
    private final SlowTown slow = new SlowTown();
    private final int run;
    private int minutesPast = 0;

    private ModelTest(int run) {
        this.run = run;
        random = new Random(run);
    }

    public static void main(String[] args) {
        for (int run = 0; run < RUNS; run++) {
            new ModelTest(run).go();
        }
        DUE.end();
    }

    private void go() {
        town();
        for (int i = 0; i < CALLS; i++) {
            call();
        }
        for (int what = -1; what < 19; what++) {
            is("count(" + what + ")", x.count(what), slow.count(what));
        }
        for (int room = 0; room < 6; room++) {
            for (int walker = 0; walker < 4; walker++) {
                is("age(" + walker + ", " + room + ")", x.age(walker, room), slow.age(walker, room));
            }
        }
    }

    private void is(String call, int got, int want) {
        DUE.is("run " + run + ": " + call, got, want);
    }

    private int below(int n) {
        return random.nextInt(n);
    }

    /** Most often a number of the range, now and then one beside it or far from it. */
    private int near(int least, int most) {
        switch (below(30)) {
            case 0:
                return least - 1;
            case 1:
                return most + 1;
            case 2:
                return random.nextInt();
            default:
                return least + below(most - least + 1);
        }
    }

    private int room() {
        return near(0, 5);
    }

    private int walker() {
        return near(0, Math.max(0, slow.count(0) - 1));
    }

    private String digits(int n, int below) {
        StringBuilder s = new StringBuilder();
        for (int i = 0; i < n; i++) {
            s.append(below(40) == 0 ? below(10) : below(below));
        }
        return s.toString();
    }

    private String statement() {
        switch (below(9)) {
            case 0:
                return "w" + digits(1, 6) + digits(1, 4) + ";";
            case 1:
                return "r" + digits(1, 6) + ";";
            case 2:
                return "n" + (1 + below(9)) + ";";
            case 3:
            case 4:
            case 5:
                return "a" + "wlfsbc".charAt(below(6)) + digits(1, 6) + digits(below(7), 6) + ";";
            default:
                int one = below(6);
                return "p" + one + (below(30) == 0 ? one : (one + 1 + below(5)) % 6) + ";";
        }
    }

    private void town() {
        StringBuilder text = new StringBuilder();
        int statements = 1 + below(14);
        for (int i = 0; i < statements; i++) {
            text.append(statement());
        }
        if (below(12) == 0) {
            text.setCharAt(below(text.length()), "pwrna;019x\u00e9".charAt(below(11)));
        }
        if (below(12) == 0) {
            text.deleteCharAt(below(text.length()));
        }
        for (int i = 0; i < text.length(); i++) {
            is("letter", x.letter(text.charAt(i)), slow.letter(text.charAt(i)));
        }
        is("town " + text, x.town(), slow.town());
    }

    private void call() {
        switch (below(5)) {
            case 0:
                change();
                break;
            case 1:
                smell();
                break;
            case 2:
                foretell();
                break;
            case 3:
                row();
                break;
            default:
                ask();
                break;
        }
    }

    private void change() {
        int a = room();
        int w = walker();
        int v = near(0, 9);
        switch (below(9)) {
            case 0:
            case 1:
                is("put(" + w + ", " + a + ")", x.put(w, a), slow.put(w, a));
                break;
            case 2:
                v = near(0, 3);
                is("wind(" + a + ", " + v + ")", x.wind(a, v), slow.wind(a, v));
                break;
            case 3:
                is("nose(" + v + ")", x.nose(v), slow.nose(v));
                break;
            case 4:
                if (below(4) == 0) {
                    is("rain()", x.rain(), slow.rain());
                }
                break;
            case 5:
                if (below(3) == 0) {
                    town();
                }
                break;
            default:
                int n = below(12) == 0 ? near(1, 40) : 1 + below(4);
                is("pass(" + n + ")", x.pass(n), slow.pass(n));
                break;
        }
    }

    private void smell() {
        int a = room();
        int w = walker();
        int what = near(0, 3);
        switch (below(4)) {
            case 0:
                is("age(" + w + ", " + a + ")", x.age(w, a), slow.age(w, a));
                break;
            case 1:
                is("told(" + a + ")", x.told(a), slow.told(a));
                break;
            default:
                is("smelt(" + a + ", " + what + ")", x.smelt(a, what), slow.smelt(a, what));
                break;
        }
    }

    private void foretell() {
        int a = room();
        int w = walker();
        int n = near(0, 40);
        switch (below(7)) {
            case 0:
                is("behind(" + w + ", " + n + ")", x.behind(w, n), slow.behind(w, n));
                break;
            case 1:
                is("freshest(" + a + ", " + n + ")", x.freshest(a, n), slow.freshest(a, n));
                break;
            case 2:
                int other = walker();
                is("meet(" + w + ", " + other + ")", x.meet(w, other), slow.meet(w, other));
                break;
            case 3:
                is("scented(" + n + ")", x.scented(n), slow.scented(n));
                break;
            case 4:
                int to = room();
                is("across(" + a + ", " + to + ")", x.across(a, to), slow.across(a, to));
                break;
            case 5:
                int end = room();
                is("covered(" + a + ", " + end + ")", x.covered(a, end), slow.covered(a, end));
                break;
            default:
                int minutes = near(1, 30);
                int z = random.nextInt();
                is("seeds(" + minutes + ", " + z + ", " + a + ")",
                        x.seeds(minutes, z, a), slow.seeds(minutes, z, a));
                break;
        }
    }

    private void number(int v) {
        is("row(" + v + ")", x.row(v), slow.row(v));
    }

    private void row() {
        switch (below(5)) {
            case 0:
                number(near(0, 30));
                break;
            case 1:
                rowOfNow();
                is("judge()", x.judge(), slow.judge());
                break;
            default:
                int n = below(20) == 0 ? near(0, 8) : below(6);
                rowOfAWay(n);
                int k = below(10) == 0 ? near(0, 8) : below(Math.max(1, n + 1));
                is("walked(" + n + ")", x.walked(n), slow.walked(n));
                is("likeliest(" + n + ", " + k + ")", x.likeliest(n, k), slow.likeliest(n, k));
                is("sure(" + n + ", " + k + ")", x.sure(n, k), slow.sure(n, k));
                break;
        }
    }

    private void rowOfNow() {
        is("clear()", x.clear(), slow.clear());
        int length = below(8) == 0 ? below(13) : 6;
        for (int r = 0; r < length; r++) {
            int least = slow.smelt(r, 1);
            is("smelt", x.smelt(r, 1), least);
            number(least < 0 || below(20) == 0 ? 30 : Math.min(30, least));
        }
    }

    private void rowOfAWay(int n) {
        is("clear()", x.clear(), slow.clear());
        int[] ages = {30, 30, 30, 30, 30, 30};
        int at = below(6);
        for (int i = 0; i <= Math.min(n, 8); i++) {
            ages[at] = n - i;
            int next = below(6);
            if ((x.room(at, 2) >> next & 1) == 1) {
                slow.room(at, 2);
                at = next;
            }
        }
        if (below(6) == 0) {
            ages[below(6)] = below(31);
        }
        for (int age : ages) {
            number(age);
        }
        if (below(20) == 0) {
            number(below(31));
        }
    }

    private void ask() {
        int a = room();
        int w = walker();
        int what = near(0, 3);
        switch (below(6)) {
            case 0:
                is("room(" + a + ", " + what + ")", x.room(a, what), slow.room(a, what));
                break;
            case 1:
                if (below(2) == 0) {
                    is("image()", x.image(), slow.image());
                } else {
                    is("on()", x.on(), slow.on());
                }
                break;
            case 2:
                what = near(0, 17);
                is("count(" + what + ")", x.count(what), slow.count(what));
                break;
            case 3:
                int c = near(0, 255);
                is("letter(" + c + ")", x.letter(c), slow.letter(c));
                if (below(3) == 0) {
                    is("town()", x.town(), slow.town());
                }
                break;
            default:
                is("walker(" + w + ", " + what + ")", x.walker(w, what), slow.walker(w, what));
                break;
        }
    }
}
