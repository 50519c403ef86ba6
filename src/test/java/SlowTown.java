import java.util.ArrayList;
import java.util.Arrays;
import java.util.HashMap;
import java.util.HashSet;
import java.util.List;
import java.util.Map;
import java.util.Set;
import java.util.TreeMap;
import java.util.TreeSet;
import java.util.regex.Matcher;
import java.util.regex.Pattern;

/**
 * The document a second time, in another form than the class: texts by patterns, every trace ever
 * left in a list, ways walked one by one. It is slow and for the tests alone.
 */
final class SlowTown {
    private static final Pattern TOWN =
            Pattern.compile("([pw][0-9][0-9];|[rn][0-9];|a[wlfsbc][0-9]{1,7};)+");

    private record Trace(int walker, int room, int minute) {
    }

    private static final class Someone {
        char kind;
        int room;
        String plan;

        Someone(char kind, int room, String plan) {
            this.kind = kind;
            this.room = room;
            this.plan = plan;
        }
    }

    private int[] winds = new int[6];
    private Set<Integer> roofs = new HashSet<>();
    private Set<String> paths = new HashSet<>();
    private List<Someone> people = new ArrayList<>();
    private List<Trace> traces = new ArrayList<>();
    private int minute = 0;
    private int nose = 1;

    private StringBuilder letters = new StringBuilder();
    private List<Integer> row = new ArrayList<>();
    private SlowTown image = null;
    private Map<Integer, Integer> refused = new HashMap<>();

    private SlowTown copy() {
        SlowTown c = new SlowTown();
        c.take(this);
        return c;
    }

    private void take(SlowTown from) {
        winds = from.winds.clone();
        roofs = new HashSet<>(from.roofs);
        paths = new HashSet<>(from.paths);
        people = new ArrayList<>();
        for (Someone s : from.people) {
            people.add(new Someone(s.kind, s.room, s.plan));
        }
        traces = new ArrayList<>(from.traces);
        minute = from.minute;
        nose = from.nose;
    }

    private int refuse(int number) {
        refused.merge(number, 1, Integer::sum);
        return number;
    }

    private static boolean room(int r) {
        return 0 <= r && r <= 5;
    }

    private boolean person(int w) {
        return 0 <= w && w < people.size();
    }

    private boolean joined(int a, int b) {
        return paths.contains(a + "-" + b) || paths.contains(b + "-" + a);
    }

    /** Ages of all traces in a room that many minutes later, by walker; only the last of each counts. */
    private Map<Integer, Integer> ages(int r, int later) {
        Map<Integer, Integer> found = new TreeMap<>();
        for (Trace t : traces) {
            if (t.room == r) {
                int old = minute + later - t.minute;
                int age = old + old * winds[r];
                if (people.get(t.walker).kind == 's') {
                    age = age / 2;
                }
                found.merge(t.walker, age, Math::min);
            }
        }
        return found;
    }

    private int goal(int w) {
        Someone s = people.get(w);
        if (s.kind == 'f' || s.kind == 'b') {
            List<Integer> order = new ArrayList<>(List.of(s.room));
            for (int r = 0; r < 6; r++) {
                if (joined(s.room, r)) {
                    order.add(r);
                }
            }
            int best = s.room;
            Integer bestAge = null;
            for (int r : order) {
                for (Map.Entry<Integer, Integer> e : ages(r, 0).entrySet()) {
                    int key = s.kind == 'f' ? e.getValue() : -e.getValue();
                    if (e.getKey() != w && (bestAge == null || key < bestAge)) {
                        bestAge = key;
                        best = r;
                    }
                }
            }
            return best;
        }
        if (s.plan.isEmpty()) {
            return s.room;
        }
        int next = s.plan.charAt(minute % s.plan.length()) - '0';
        return joined(s.room, next) ? next : s.room;
    }

    private void step() {
        List<Integer> goals = new ArrayList<>();
        for (int w = 0; w < people.size(); w++) {
            goals.add(goal(w));
        }
        minute++;
        for (int w = 0; w < people.size(); w++) {
            Someone s = people.get(w);
            boolean went = s.room != goals.get(w);
            s.room = goals.get(w);
            if (s.kind != 'c' && !(s.kind == 'l' && went)) {
                traces.add(new Trace(w, s.room, minute));
            }
        }
    }

    private SlowTown later(int n) {
        SlowTown c = copy();
        for (int i = 0; i < n; i++) {
            c.step();
        }
        return c;
    }

    int letter(int c) {
        if (c < 0) {
            return refuse(-4);
        }
        if (c > 255 || letters.length() == 96) {
            return refuse(-6);
        }
        letters.append((char) c);
        return letters.length();
    }

    int town() {
        String text = letters.toString();
        letters.setLength(0);
        for (int i = 1; i <= text.length(); i++) {
            Matcher m = TOWN.matcher(text.substring(0, i));
            if (!m.matches() && !m.hitEnd()) {
                return -1000 - (i - 1);
            }
        }
        if (!TOWN.matcher(text).matches()) {
            return -1000 - text.length();
        }
        SlowTown next = copy();
        int place = 0;
        int statements = 0;
        for (String s : text.split(";")) {
            if (!next.statement(s)) {
                return -2000 - place;
            }
            statements++;
            place += s.length() + 1;
        }
        take(next);
        return statements;
    }

    private static <T> void tellOrTakeBack(Set<T> told, T one) {
        if (!told.remove(one)) {
            told.add(one);
        }
    }

    private boolean statement(String s) {
        int a = s.charAt(1) - '0';
        switch (s.charAt(0)) {
            case 'p': {
                int b = s.charAt(2) - '0';
                if (a == b || a > 5 || b > 5) {
                    return false;
                }
                tellOrTakeBack(paths, Math.min(a, b) + "-" + Math.max(a, b));
                return true;
            }
            case 'w':
                if (a > 5 || s.charAt(2) > '3') {
                    return false;
                }
                winds[a] = s.charAt(2) - '0';
                return true;
            case 'r':
                tellOrTakeBack(roofs, a);
                return a <= 5;
            case 'n':
                nose = a;
                return a != 0;
            default:
                break;
        }
        if (people.size() == 4 || !s.substring(2).matches("[0-5]+")) {
            return false;
        }
        people.add(new Someone(s.charAt(1), s.charAt(2) - '0', s.substring(3)));
        if (s.charAt(1) != 'c') {
            traces.add(new Trace(people.size() - 1, s.charAt(2) - '0', minute));
        }
        return true;
    }

    int room(int r, int what) {
        if (!room(r)) {
            return refuse(-1);
        }
        if (what == 0) {
            return winds[r];
        }
        if (what == 1) {
            return roofs.contains(r) ? 1 : 0;
        }
        if (what != 2) {
            return refuse(-2);
        }
        int bits = 0;
        for (int to = 0; to < 6; to++) {
            bits += joined(r, to) ? 1 << to : 0;
        }
        return bits;
    }

    int walker(int w, int what) {
        if (!person(w)) {
            return refuse(-1);
        }
        if (what < 0 || what > 3) {
            return refuse(-2);
        }
        Someone s = people.get(w);
        return new int[] {"wlfsbc".indexOf(s.kind), s.room, s.plan.length(), goal(w)}[what];
    }

    int put(int w, int r) {
        if (!person(w) || !room(r)) {
            return refuse(-1);
        }
        int was = people.get(w).room;
        people.get(w).room = r;
        return was;
    }

    int wind(int r, int v) {
        if (!room(r)) {
            return refuse(-1);
        }
        if (v < 0) {
            return refuse(-4);
        }
        if (v > 3) {
            return refuse(-6);
        }
        int was = winds[r];
        winds[r] = v;
        return was;
    }

    int nose(int v) {
        if (v < 1) {
            return refuse(-4);
        }
        if (v > 9) {
            return refuse(-6);
        }
        int was = nose;
        nose = v;
        return was;
    }

    int pass(int n) {
        if (n < 1) {
            return refuse(-4);
        }
        if (n > 40 || n > 99 - minute) {
            return refuse(-6);
        }
        take(later(n));
        return minute;
    }

    int rain() {
        int before = all();
        traces.removeIf(t -> !roofs.contains(t.room));
        return before - all();
    }

    private int all() {
        Set<String> places = new HashSet<>();
        for (Trace t : traces) {
            places.add(t.walker + "/" + t.room);
        }
        return places.size();
    }

    int age(int w, int r) {
        if (!person(w) || !room(r)) {
            return refuse(-1);
        }
        return ages(r, 0).getOrDefault(w, -9);
    }

    int smelt(int r, int what) {
        if (!room(r)) {
            return refuse(-1);
        }
        if (what < 0 || what > 3) {
            return refuse(-2);
        }
        TreeSet<Integer> ages = new TreeSet<>(ages(r, 0).values());
        if (what == 0) {
            return ages(r, 0).size();
        }
        if (what == 3) {
            return apart(r);
        }
        if (ages.isEmpty()) {
            return -9;
        }
        return what == 1 ? ages.first() : ages.last();
    }

    private int apart(int r) {
        Set<Integer> smells = new HashSet<>();
        for (int age : ages(r, 0).values()) {
            smells.add(age / nose);
        }
        return smells.size();
    }

    int behind(int w, int n) {
        if (!person(w)) {
            return refuse(-1);
        }
        if (n < 0 || n > 40) {
            return refuse(n < 0 ? -4 : -6);
        }
        return later(n).people.get(w).room;
    }

    private int least(int r) {
        int least = Integer.MAX_VALUE;
        for (int age : ages(r, 0).values()) {
            least = Math.min(least, age);
        }
        return least == Integer.MAX_VALUE ? -9 : least;
    }

    int freshest(int r, int n) {
        if (!room(r)) {
            return refuse(-1);
        }
        if (n < 0 || n > 40) {
            return refuse(n < 0 ? -4 : -6);
        }
        return later(n).least(r);
    }

    int meet(int one, int other) {
        if (!person(one) || !person(other) || one == other) {
            return refuse(-1);
        }
        SlowTown c = copy();
        int n = 0;
        while (n <= 40 && c.people.get(one).room != c.people.get(other).room) {
            c.step();
            n++;
        }
        return n <= 40 ? n : -9;
    }

    int scented(int n) {
        if (n < 0 || n > 40) {
            return refuse(n < 0 ? -4 : -6);
        }
        SlowTown c = later(n);
        int bits = 0;
        for (int w = 0; w < people.size(); w++) {
            Set<Integer> there = new HashSet<>(c.ages(c.people.get(w).room, 0).keySet());
            there.remove(w);
            bits += there.isEmpty() ? 0 : 1 << w;
        }
        return bits;
    }

    /** Every way that fits the row, room by room. */
    private List<int[]> ways(int n) {
        List<int[]> fits = new ArrayList<>();
        for (int r = 0; r < 6; r++) {
            int[] way = new int[n + 1];
            way[0] = r;
            walk(way, 1, fits);
        }
        return fits;
    }

    private void walk(int[] way, int at, List<int[]> fits) {
        if (at == way.length) {
            int[] ages = new int[6];
            Arrays.fill(ages, 30);
            for (int i = 0; i < way.length; i++) {
                ages[way[i]] = way.length - 1 - i;
            }
            boolean same = true;
            for (int r = 0; r < 6; r++) {
                same &= ages[r] == row.get(r);
            }
            if (same) {
                fits.add(way.clone());
            }
            return;
        }
        for (int r = 0; r < 6; r++) {
            if (r == way[at - 1] || joined(r, way[at - 1])) {
                way[at] = r;
                walk(way, at + 1, fits);
            }
        }
    }

    private int wayRefusal(int n, int k) {
        if (n < 0 || k < 0) {
            return -4;
        }
        if (n > 8 || k > n) {
            return -6;
        }
        return row.size() == 6 ? 0 : -3;
    }

    int walked(int n) {
        int refusal = wayRefusal(n, 0);
        return refusal != 0 ? refuse(refusal) : ways(n).size();
    }

    int likeliest(int n, int k) {
        int refusal = wayRefusal(n, k);
        if (refusal != 0) {
            return refuse(refusal);
        }
        int[] times = new int[6];
        for (int[] way : ways(n)) {
            times[way[k]]++;
        }
        int best = 0;
        for (int r = 1; r < 6; r++) {
            best = times[r] > times[best] ? r : best;
        }
        return times[best] == 0 ? -9 : best;
    }

    int sure(int n, int k) {
        int refusal = wayRefusal(n, k);
        if (refusal != 0) {
            return refuse(refusal);
        }
        int bits = 0;
        for (int[] way : ways(n)) {
            bits |= 1 << way[k];
        }
        return bits;
    }

    private int soonest(int from, int to, boolean covered) {
        if (!room(from) || !room(to)) {
            return refuse(-1);
        }
        Set<Integer> there = new HashSet<>(Set.of(from));
        SlowTown c = copy();
        for (int n = 0; n <= 40; n++) {
            if (there.contains(to)) {
                return n;
            }
            c.step();
            Set<Integer> next = new HashSet<>();
            for (int r = 0; r < 6; r++) {
                boolean open = true;
                for (Someone s : c.people) {
                    open &= s.room != r;
                }
                if (covered) {
                    open = c.ages(r, 0).values().stream().anyMatch(age -> age <= 3);
                }
                for (int was : there) {
                    if (open && (was == r || joined(was, r))) {
                        next.add(r);
                    }
                }
            }
            there = next;
        }
        return -9;
    }

    int across(int from, int to) {
        return soonest(from, to, false);
    }

    int covered(int from, int to) {
        return soonest(from, to, true);
    }

    int told(int r) {
        if (!room(r)) {
            return refuse(-1);
        }
        if (ages(r, 0).size() < 2) {
            return -9;
        }
        for (int n = 0; n <= 40; n++) {
            List<Integer> ages = new ArrayList<>(ages(r, n).values());
            ages.sort(null);
            if (ages.get(0) / nose == ages.get(1) / nose) {
                return n;
            }
        }
        return 41;
    }

    int row(int v) {
        if (v < 0) {
            return refuse(-4);
        }
        if (v > 30 || row.size() == 12) {
            return refuse(-6);
        }
        row.add(v);
        return row.size();
    }

    int judge() {
        List<Integer> numbers = row;
        row = new ArrayList<>();
        for (int r = 0; r < 6; r++) {
            if (r == numbers.size()) {
                return r;
            }
            int least = least(r);
            if (numbers.get(r) == 30 ? least != -9 : least != numbers.get(r)) {
                return r;
            }
        }
        return numbers.size() > 6 ? 6 : -9;
    }

    int clear() {
        int had = row.size();
        row.clear();
        return had;
    }

    int seeds(int n, int z, int r) {
        if (!room(r)) {
            return refuse(-1);
        }
        if (n < 1 || n > 30) {
            return refuse(n < 1 ? -4 : -6);
        }
        SlowTown c = copy();
        long seed = z;
        for (int i = 0; i < n; i++) {
            for (Someone s : c.people) {
                seed = (int) (seed * 1664525L + 1013904223L);
                s.room = (int) ((seed & 0x7fffffffL) / 256 % 6);
            }
            c.step();
        }
        return c.apart(r);
    }

    int image() {
        image = copy();
        return minute;
    }

    int on() {
        if (image == null) {
            return refuse(-3);
        }
        take(image);
        return minute;
    }

    int count(int what) {
        switch (what) {
            case 0:
                return people.size();
            case 1:
                return paths.size();
            case 2:
                return minute;
            case 3:
                return nose;
            case 4:
                return all();
            case 5:
                return row.size();
            case 6:
                return letters.length();
            default:
                return 11 <= what && what <= 16 ? refused.getOrDefault(10 - what, 0) : -9;
        }
    }
}
