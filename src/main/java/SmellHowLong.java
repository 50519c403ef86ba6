/** Rooms joined by paths, walkers who leave traces in them, and how long ago those smell. */
public final class SmellHowLong {
    private static final int ROOMS = 6;
    private static final int MOST_WALKERS = 4;
    private static final int MOST_IN_PLAN = 6;
    private static final int MOST_LETTERS = 96;
    private static final int MOST_IN_ROW = 12;
    private static final int MOST_WIND = 3;
    private static final int MOST_NOSE = 9;
    private static final int LAST_MINUTE = 99;
    private static final int MOST_MINUTES = 40;
    private static final int MOST_WALKED = 8;
    private static final int MOST_SEEDED = 30;
    private static final int COVERING_AGE = 3;
    private static final int NO_TRACE = 30;

    private static final int NONE = -9;
    private static final int NO_ONE = -1;

    private static final int NOBODY = -1;
    private static final int OTHER = -2;
    private static final int STATE = -3;
    private static final int BELOW = -4;
    private static final int ABOVE = -6;
    private static final int FITS = 0;
    private static final int REFUSALS = 6;

    private final Town now = new Town();
    private final Town mind = new Town();
    private final Town taken = new Town();
    private boolean isTaken = false;
    private final Telling telling = new Telling();
    private final Walks walks = new Walks();
    private final int[] numbers = new int[MOST_IN_ROW];
    private int numbersIn = 0;
    private final int[] refused = new int[REFUSALS + 1];

    public SmellHowLong() {
    }

    public int letter(int c) {
        if (c < 0) {
            return refuse(BELOW);
        }
        if (c > 255 || telling.isFull()) {
            return refuse(ABOVE);
        }
        return telling.take(c);
    }

    public int town() {
        int answer = toldTown();
        telling.forget();
        return answer;
    }

    public int room(int room, int what) {
        if (!isRoom(room)) {
            return refuse(NOBODY);
        }
        switch (what) {
            case 0:
                return now.windIn(room);
            case 1:
                return now.hasRoof(room) ? 1 : 0;
            case 2:
                return now.pathsFrom(room);
            default:
                return refuse(OTHER);
        }
    }

    public int walker(int walker, int what) {
        if (!now.isWalker(walker)) {
            return refuse(NOBODY);
        }
        switch (what) {
            case 0:
                return now.kindOf(walker);
            case 1:
                return now.placeOf(walker);
            case 2:
                return now.planLengthOf(walker);
            case 3:
                return now.goalOf(walker);
            default:
                return refuse(OTHER);
        }
    }

    public int put(int walker, int room) {
        if (!now.isWalker(walker) || !isRoom(room)) {
            return refuse(NOBODY);
        }
        int was = now.placeOf(walker);
        now.place(walker, room);
        return was;
    }

    public int wind(int room, int v) {
        int refusal = isRoom(room) ? outside(v, 0, MOST_WIND) : NOBODY;
        if (refusal != FITS) {
            return refuse(refusal);
        }
        int was = now.windIn(room);
        now.setWind(room, v);
        return was;
    }

    public int nose(int v) {
        int refusal = outside(v, 1, MOST_NOSE);
        if (refusal != FITS) {
            return refuse(refusal);
        }
        int was = now.noseNow();
        now.setNose(v);
        return was;
    }

    public int pass(int n) {
        int refusal = outside(n, 1, Math.min(MOST_MINUTES, LAST_MINUTE - now.minuteNow()));
        if (refusal != FITS) {
            return refuse(refusal);
        }
        now.goOn(n);
        return now.minuteNow();
    }

    public int rain() {
        return now.washOut();
    }

    public int age(int walker, int room) {
        if (!now.isWalker(walker) || !isRoom(room)) {
            return refuse(NOBODY);
        }
        return now.ageOf(walker, room, 0);
    }

    public int smelt(int room, int what) {
        if (!isRoom(room)) {
            return refuse(NOBODY);
        }
        switch (what) {
            case 0:
                return now.tracesIn(room);
            case 1:
                return now.leastAge(room);
            case 2:
                return now.greatestAge(room);
            case 3:
                return now.toldApartIn(room);
            default:
                return refuse(OTHER);
        }
    }

    public int behind(int walker, int n) {
        int refusal = now.isWalker(walker) ? outside(n, 0, MOST_MINUTES) : NOBODY;
        if (refusal != FITS) {
            return refuse(refusal);
        }
        think(n);
        return mind.placeOf(walker);
    }

    public int freshest(int room, int n) {
        int refusal = isRoom(room) ? outside(n, 0, MOST_MINUTES) : NOBODY;
        if (refusal != FITS) {
            return refuse(refusal);
        }
        think(n);
        return mind.leastAge(room);
    }

    public int meet(int one, int other) {
        if (!now.isWalker(one) || !now.isWalker(other) || one == other) {
            return refuse(NOBODY);
        }
        mind.become(now);
        for (int minutes = 0; minutes <= MOST_MINUTES; minutes++) {
            if (mind.placeOf(one) == mind.placeOf(other)) {
                return minutes;
            }
            mind.goOn(1);
        }
        return NONE;
    }

    public int scented(int n) {
        int refusal = outside(n, 0, MOST_MINUTES);
        if (refusal != FITS) {
            return refuse(refusal);
        }
        think(n);
        return mind.walkersAmongOthersTraces();
    }

    public int walked(int n) {
        int refusal = walksRefusal(n, 0);
        if (refusal != FITS) {
            return refuse(refusal);
        }
        walks.find(numbers, n, now);
        return walks.ways();
    }

    public int likeliest(int n, int k) {
        int refusal = walksRefusal(n, k);
        if (refusal != FITS) {
            return refuse(refusal);
        }
        walks.find(numbers, n, now);
        return walks.commonestRoom(k);
    }

    public int sure(int n, int k) {
        int refusal = walksRefusal(n, k);
        if (refusal != FITS) {
            return refuse(refusal);
        }
        walks.find(numbers, n, now);
        return walks.roomsThen(k);
    }

    public int across(int from, int to) {
        if (!isRoom(from) || !isRoom(to)) {
            return refuse(NOBODY);
        }
        return soonest(from, to, false);
    }

    public int covered(int from, int to) {
        if (!isRoom(from) || !isRoom(to)) {
            return refuse(NOBODY);
        }
        return soonest(from, to, true);
    }

    public int told(int room) {
        if (!isRoom(room)) {
            return refuse(NOBODY);
        }
        if (now.tracesIn(room) < 2) {
            return NONE;
        }
        for (int later = 0; later <= MOST_MINUTES; later++) {
            if (!now.isFreshestApart(room, later)) {
                return later;
            }
        }
        return MOST_MINUTES + 1;
    }

    public int row(int v) {
        if (v < 0) {
            return refuse(BELOW);
        }
        if (v > NO_TRACE || numbersIn >= MOST_IN_ROW) {
            return refuse(ABOVE);
        }
        numbers[numbersIn] = v;
        numbersIn++;
        return numbersIn;
    }

    public int judge() {
        int answer = firstWrong();
        numbersIn = 0;
        return answer;
    }

    public int clear() {
        int had = numbersIn;
        numbersIn = 0;
        return had;
    }

    public int seeds(int n, int z, int room) {
        int refusal = isRoom(room) ? outside(n, 1, MOST_SEEDED) : NOBODY;
        if (refusal != FITS) {
            return refuse(refusal);
        }
        mind.become(now);
        int seed = z;
        for (int minutes = 0; minutes < n; minutes++) {
            seed = mind.scatter(seed);
            mind.goOn(1);
        }
        return mind.toldApartIn(room);
    }

    public int image() {
        taken.become(now);
        isTaken = true;
        return now.minuteNow();
    }

    public int on() {
        if (!isTaken) {
            return refuse(STATE);
        }
        now.become(taken);
        return now.minuteNow();
    }

    public int count(int what) {
        switch (what) {
            case 0:
                return now.walkersIn();
            case 1:
                return now.pathsIn();
            case 2:
                return now.minuteNow();
            case 3:
                return now.noseNow();
            case 4:
                return now.allTraces();
            case 5:
                return numbersIn;
            case 6:
                return telling.lettersIn();
            default:
                return what > 10 && what <= 10 + REFUSALS ? refused[what - 10] : NONE;
        }
    }

    private int refuse(int refusal) {
        refused[-refusal]++;
        return refusal;
    }

    private static boolean isRoom(int room) {
        return room >= 0 && room < ROOMS;
    }

    /** The refusal of a number that is not in its range, FITS if it is. */
    private static int outside(int v, int least, int most) {
        if (v < least) {
            return BELOW;
        }
        return v > most ? ABOVE : FITS;
    }

    private int walksRefusal(int n, int k) {
        if (n < 0 || k < 0) {
            return BELOW;
        }
        if (n > MOST_WALKED || k > n) {
            return ABOVE;
        }
        return numbersIn == ROOMS ? FITS : STATE;
    }

    private int toldTown() {
        int fault = telling.firstWrongLetter();
        if (fault >= 0) {
            return -1000 - fault;
        }
        // Told to a copy first: with a fault nothing of the text may come.
        mind.become(now);
        int answer = telling.tell(mind);
        if (answer >= 0) {
            now.become(mind);
        }
        return answer;
    }

    private void think(int minutes) {
        mind.become(now);
        mind.goOn(minutes);
    }

    private int soonest(int from, int to, boolean byTraces) {
        int reached = 1 << from;
        mind.become(now);
        for (int minutes = 0; minutes <= MOST_MINUTES; minutes++) {
            if ((reached >> to & 1) == 1) {
                return minutes;
            }
            mind.goOn(1);
            int open = byTraces ? mind.roomsWithTraceUpTo(COVERING_AGE) : mind.emptyRooms();
            reached = mind.within(reached) & open;
        }
        return NONE;
    }

    private int firstWrong() {
        int compared = Math.min(numbersIn, ROOMS);
        for (int room = 0; room < compared; room++) {
            int least = now.leastAge(room);
            // 30 tells that there is no trace, so a trace that is 30 old fits no number.
            boolean fits = numbers[room] == NO_TRACE ? least == NONE : least == numbers[room];
            if (!fits) {
                return room;
            }
        }
        return numbersIn == ROOMS ? NONE : compared;
    }

    /** All that the image keeps: rooms, paths, walkers, traces, minute and nose. */
    private static final class Town {
        private static final int LIGHT = 1;
        private static final int FOLLOWER = 2;
        private static final int STRONG = 3;
        private static final int BACKWARD = 4;
        private static final int CLEAN = 5;
        private static final int NEVER = -1;

        private final int[] winds = new int[ROOMS];
        private int roofs = 0;
        private final int[] paths = new int[ROOMS];
        private int walkers = 0;
        private final int[] kinds = new int[MOST_WALKERS];
        private final int[] places = new int[MOST_WALKERS];
        private final int[] goals = new int[MOST_WALKERS];
        private final int[] planLengths = new int[MOST_WALKERS];
        private final int[][] plans = new int[MOST_WALKERS][MOST_IN_PLAN];
        private final int[][] left = new int[MOST_WALKERS][ROOMS];
        private int minute = 0;
        private int nose = 1;

        void become(Town other) {
            System.arraycopy(other.winds, 0, winds, 0, ROOMS);
            roofs = other.roofs;
            System.arraycopy(other.paths, 0, paths, 0, ROOMS);
            walkers = other.walkers;
            for (int walker = 0; walker < walkers; walker++) {
                kinds[walker] = other.kinds[walker];
                places[walker] = other.places[walker];
                planLengths[walker] = other.planLengths[walker];
                System.arraycopy(other.plans[walker], 0, plans[walker], 0, MOST_IN_PLAN);
                System.arraycopy(other.left[walker], 0, left[walker], 0, ROOMS);
            }
            minute = other.minute;
            nose = other.nose;
        }

        boolean isWalker(int walker) {
            return walker >= 0 && walker < walkers;
        }

        boolean hasSpace() {
            return walkers < MOST_WALKERS;
        }

        int walkersIn() {
            return walkers;
        }

        int minuteNow() {
            return minute;
        }

        int noseNow() {
            return nose;
        }

        void setNose(int v) {
            nose = v;
        }

        int windIn(int room) {
            return winds[room];
        }

        void setWind(int room, int v) {
            winds[room] = v;
        }

        boolean hasRoof(int room) {
            return (roofs >> room & 1) == 1;
        }

        /** A roof told again is none. */
        void turnRoof(int room) {
            roofs ^= 1 << room;
        }

        int pathsFrom(int room) {
            return paths[room];
        }

        boolean isPath(int from, int to) {
            return (paths[from] >> to & 1) == 1;
        }

        /** A path told again, from either of its ends, is none. */
        void turnPath(int one, int other) {
            paths[one] ^= 1 << other;
            paths[other] ^= 1 << one;
        }

        int pathsIn() {
            int ends = 0;
            for (int room = 0; room < ROOMS; room++) {
                ends += Integer.bitCount(paths[room]);
            }
            return ends / 2;
        }

        /** Rooms (bits) where one from these rooms (bits) can be a minute later. */
        int within(int rooms) {
            int reached = rooms;
            for (int room = 0; room < ROOMS; room++) {
                if ((rooms >> room & 1) == 1) {
                    reached |= paths[room];
                }
            }
            return reached;
        }

        /** Call it only while there is space; his plan is told room by room behind it. */
        void addWalker(int kind, int room) {
            int walker = walkers;
            walkers++;
            kinds[walker] = kind;
            places[walker] = room;
            planLengths[walker] = 0;
            for (int other = 0; other < ROOMS; other++) {
                left[walker][other] = NEVER;
            }
            leaveTrace(walker);
        }

        void addToLastPlan(int room) {
            int walker = walkers - 1;
            if (walker >= 0 && planLengths[walker] < MOST_IN_PLAN) {
                plans[walker][planLengths[walker]] = room;
                planLengths[walker]++;
            }
        }

        int kindOf(int walker) {
            return kinds[walker];
        }

        int placeOf(int walker) {
            return places[walker];
        }

        void place(int walker, int room) {
            places[walker] = room;
        }

        int planLengthOf(int walker) {
            return planLengths[walker];
        }

        int goalOf(int walker) {
            switch (kinds[walker]) {
                case FOLLOWER:
                    return smeltGoal(walker, false);
                case BACKWARD:
                    return smeltGoal(walker, true);
                default:
                    return plannedGoal(walker);
            }
        }

        private int plannedGoal(int walker) {
            int home = places[walker];
            int length = planLengths[walker];
            if (length == 0) {
                return home;
            }
            int next = plans[walker][minute % length];
            return isPath(home, next) ? next : home;
        }

        private int smeltGoal(int walker, boolean backward) {
            int home = places[walker];
            int goal = home;
            int goalAge = ageAmong(home, walker, backward);
            for (int room = 0; room < ROOMS; room++) {
                if (isPath(home, room)) {
                    int age = ageAmong(room, walker, backward);
                    if (isBeyond(age, goalAge, backward)) {
                        goal = room;
                        goalAge = age;
                    }
                }
            }
            return goal;
        }

        void goOn(int minutes) {
            for (int passed = 0; passed < minutes; passed++) {
                // All goals stand before anybody goes: all go at once.
                for (int walker = 0; walker < walkers; walker++) {
                    goals[walker] = goalOf(walker);
                }
                minute++;
                for (int walker = 0; walker < walkers; walker++) {
                    arrive(walker, goals[walker]);
                }
            }
        }

        private void arrive(int walker, int goal) {
            boolean stays = goal == places[walker];
            places[walker] = goal;
            if (stays || kinds[walker] != LIGHT) {
                leaveTrace(walker);
            }
        }

        private void leaveTrace(int walker) {
            if (kinds[walker] != CLEAN) {
                left[walker][places[walker]] = minute;
            }
        }

        /** Puts all walkers into drawn rooms: the seed behind it. */
        int scatter(int seed) {
            int z = seed;
            for (int walker = 0; walker < walkers; walker++) {
                z = z * 1664525 + 1013904223;
                places[walker] = (z & 0x7fffffff) / 256 % ROOMS;
            }
            return z;
        }

        int washOut() {
            int washed = 0;
            for (int room = 0; room < ROOMS; room++) {
                if (!hasRoof(room)) {
                    washed += tracesIn(room);
                    forgetTraces(room);
                }
            }
            return washed;
        }

        private void forgetTraces(int room) {
            for (int walker = 0; walker < walkers; walker++) {
                left[walker][room] = NEVER;
            }
        }

        private boolean hasTrace(int walker, int room) {
            return left[walker][room] != NEVER;
        }

        /** How old his trace will be so many minutes later, if none is left till then. */
        int ageOf(int walker, int room, int later) {
            if (left[walker][room] == NEVER) {
                return NONE;
            }
            int age = (minute + later - left[walker][room]) * (1 + winds[room]);
            return kinds[walker] == STRONG ? age / 2 : age;
        }

        private int smellOf(int walker, int room, int later) {
            return ageOf(walker, room, later) / nose;
        }

        int tracesIn(int room) {
            int traces = 0;
            for (int walker = 0; walker < walkers; walker++) {
                if (hasTrace(walker, room)) {
                    traces++;
                }
            }
            return traces;
        }

        int allTraces() {
            int traces = 0;
            for (int room = 0; room < ROOMS; room++) {
                traces += tracesIn(room);
            }
            return traces;
        }

        int leastAge(int room) {
            return ageAmong(room, NO_ONE, false);
        }

        int greatestAge(int room) {
            return ageAmong(room, NO_ONE, true);
        }

        /** The least or the greatest age in a room of all traces but those of one walker. */
        private int ageAmong(int room, int without, boolean greatest) {
            int found = NONE;
            for (int walker = 0; walker < walkers; walker++) {
                if (walker != without) {
                    int age = ageOf(walker, room, 0);
                    if (isBeyond(age, found, greatest)) {
                        found = age;
                    }
                }
            }
            return found;
        }

        /** Any age is beyond none; no age is beyond nothing. */
        private static boolean isBeyond(int age, int than, boolean greatest) {
            if (age == NONE || than == NONE) {
                return age != NONE;
            }
            return greatest ? age > than : age < than;
        }

        int toldApartIn(int room) {
            int apart = 0;
            for (int walker = 0; walker < walkers; walker++) {
                if (hasTrace(walker, room) && !smellsAsOneBefore(walker, room)) {
                    apart++;
                }
            }
            return apart;
        }

        private boolean smellsAsOneBefore(int walker, int room) {
            int smell = smellOf(walker, room, 0);
            for (int before = 0; before < walker; before++) {
                if (hasTrace(before, room) && smellOf(before, room, 0) == smell) {
                    return true;
                }
            }
            return false;
        }

        /** Whether no other trace will smell as the freshest of the room does, so much later. */
        boolean isFreshestApart(int room, int later) {
            int least = 0;
            int alike = 0;
            for (int walker = 0; walker < walkers; walker++) {
                if (hasTrace(walker, room)) {
                    int smell = smellOf(walker, room, later);
                    if (alike == 0 || smell < least) {
                        least = smell;
                        alike = 1;
                    } else if (smell == least) {
                        alike++;
                    }
                }
            }
            return alike < 2;
        }

        int walkersAmongOthersTraces() {
            int found = 0;
            for (int walker = 0; walker < walkers; walker++) {
                if (ageAmong(places[walker], walker, false) != NONE) {
                    found |= 1 << walker;
                }
            }
            return found;
        }

        int emptyRooms() {
            int empty = (1 << ROOMS) - 1;
            for (int walker = 0; walker < walkers; walker++) {
                empty &= ~(1 << places[walker]);
            }
            return empty;
        }

        int roomsWithTraceUpTo(int most) {
            int found = 0;
            for (int room = 0; room < ROOMS; room++) {
                int least = leastAge(room);
                if (least != NONE && least <= most) {
                    found |= 1 << room;
                }
            }
            return found;
        }
    }

    /** The letters that have come, and the town that they tell. */
    private static final class Telling {
        private static final String KIND_LETTERS = "wlfsbc";
        private static final int NO_LETTER = -1;
        private static final int NO_FAULT = -1;

        private final int[] letters = new int[MOST_LETTERS];
        private int length = 0;

        boolean isFull() {
            return length >= MOST_LETTERS;
        }

        int lettersIn() {
            return length;
        }

        int take(int c) {
            if (!isFull()) {
                letters[length] = c;
                length++;
            }
            return length;
        }

        void forget() {
            length = 0;
        }

        private int letterAt(int place) {
            return place >= 0 && place < length ? letters[place] : NO_LETTER;
        }

        private boolean isDigit(int place) {
            int c = letterAt(place);
            return c >= '0' && c <= '9';
        }

        private int digitAt(int place) {
            return letterAt(place) - '0';
        }

        private int kindAt(int place) {
            int c = letterAt(place);
            return c < 0 ? -1 : KIND_LETTERS.indexOf((char) c);
        }

        private static int leastDigits(int head) {
            switch (head) {
                case 'p':
                case 'w':
                    return 2;
                case 'r':
                case 'n':
                case 'a':
                    return 1;
                default:
                    return 0;
            }
        }

        private static int mostDigits(int head) {
            return head == 'a' ? 1 + MOST_IN_PLAN : leastDigits(head);
        }

        private int digitsFrom(int place, int most) {
            int digits = 0;
            while (digits < most && isDigit(place + digits)) {
                digits++;
            }
            return digits;
        }

        /** The place of the first letter with which no town can go on, or NO_FAULT. */
        int firstWrongLetter() {
            int at = 0;
            do {
                int head = letterAt(at);
                int least = leastDigits(head);
                if (least == 0) {
                    return at;
                }
                at++;
                if (head == 'a') {
                    if (kindAt(at) < 0) {
                        return at;
                    }
                    at++;
                }
                int digits = digitsFrom(at, mostDigits(head));
                at += digits;
                if (digits < least || letterAt(at) != ';') {
                    return at;
                }
                at++;
            } while (at < length);
            return NO_FAULT;
        }

        /** Tells a town, after its letters were found right: how many statements, or the fault. */
        int tell(Town town) {
            int statements = 0;
            int start = 0;
            for (int at = 0; at < length; at++) {
                if (letterAt(at) == ';') {
                    if (!tellStatement(town, start, at)) {
                        return -2000 - start;
                    }
                    statements++;
                    start = at + 1;
                }
            }
            return statements;
        }

        private boolean tellStatement(Town town, int start, int end) {
            switch (letterAt(start)) {
                case 'p':
                    return tellPath(town, start + 1);
                case 'w':
                    return tellWind(town, start + 1);
                case 'r':
                    return tellRoof(town, start + 1);
                case 'n':
                    return tellNose(town, start + 1);
                default:
                    return tellWalker(town, start + 1, end);
            }
        }

        private boolean tellPath(Town town, int at) {
            int one = digitAt(at);
            int other = digitAt(at + 1);
            if (!isRoom(one) || !isRoom(other) || one == other) {
                return false;
            }
            town.turnPath(one, other);
            return true;
        }

        private boolean tellWind(Town town, int at) {
            int room = digitAt(at);
            int v = digitAt(at + 1);
            if (!isRoom(room) || v < 0 || v > MOST_WIND) {
                return false;
            }
            town.setWind(room, v);
            return true;
        }

        private boolean tellRoof(Town town, int at) {
            if (!isRoom(digitAt(at))) {
                return false;
            }
            town.turnRoof(digitAt(at));
            return true;
        }

        private boolean tellNose(Town town, int at) {
            int v = digitAt(at);
            if (v < 1 || v > MOST_NOSE) {
                return false;
            }
            town.setNose(v);
            return true;
        }

        private boolean tellWalker(Town town, int at, int end) {
            int kind = kindAt(at);
            if (kind < 0 || !town.hasSpace()) {
                return false;
            }
            for (int place = at + 1; place < end; place++) {
                if (!isRoom(digitAt(place))) {
                    return false;
                }
            }
            town.addWalker(kind, digitAt(at + 1));
            for (int place = at + 2; place < end; place++) {
                town.addToLastPlan(digitAt(place));
            }
            return true;
        }
    }

    /** The ways in which somebody can have walked who left such traces as a row tells. */
    private static final class Walks {
        private static final int MOMENTS = MOST_WALKED + 1;

        private final int[] open = new int[MOMENTS];
        private final int[][] waysTo = new int[MOMENTS][ROOMS];
        private final int[][] waysOn = new int[MOMENTS][ROOMS];
        private int last = 0;

        /** Counts all ways of n minutes (0 .. 8) that fit the six numbers. */
        void find(int[] numbers, int n, Town town) {
            last = n;
            for (int moment = 0; moment <= n; moment++) {
                open[moment] = openRooms(numbers, n - moment);
            }
            for (int moment = 0; moment <= n; moment++) {
                for (int room = 0; room < ROOMS; room++) {
                    waysTo[moment][room] = moment == 0 ? openWays(0, room, 1)
                            : openWays(moment, room, sumWithin(waysTo[moment - 1], room, town));
                }
            }
            for (int moment = n; moment >= 0; moment--) {
                for (int room = 0; room < ROOMS; room++) {
                    waysOn[moment][room] = moment == n ? openWays(n, room, 1)
                            : openWays(moment, room, sumWithin(waysOn[moment + 1], room, town));
                }
            }
        }

        /** Where he can have been so long ago: he never came back into a room behind its number. */
        private int openRooms(int[] numbers, int ago) {
            int rooms = 0;
            int leftThen = 0;
            for (int room = 0; room < ROOMS; room++) {
                int number = numbers[room];
                if (number != NO_TRACE && number > last) {
                    return 0;
                }
                if (number == ago) {
                    leftThen |= 1 << room;
                }
                if (number <= ago) {
                    rooms |= 1 << room;
                }
            }
            if (leftThen == 0) {
                return rooms;
            }
            return Integer.bitCount(leftThen) == 1 ? leftThen : 0;
        }

        private int openWays(int moment, int room, int ways) {
            return (open[moment] >> room & 1) == 1 ? ways : 0;
        }

        private static int sumWithin(int[] ways, int room, Town town) {
            int sum = ways[room];
            for (int other = 0; other < ROOMS; other++) {
                if (town.isPath(room, other)) {
                    sum += ways[other];
                }
            }
            return sum;
        }

        private int waysThrough(int moment, int room) {
            return waysTo[moment][room] * waysOn[moment][room];
        }

        int ways() {
            int sum = 0;
            for (int room = 0; room < ROOMS; room++) {
                sum += waysTo[last][room];
            }
            return sum;
        }

        int commonestRoom(int moment) {
            int commonest = NONE;
            int most = 0;
            for (int room = 0; room < ROOMS; room++) {
                int ways = waysThrough(moment, room);
                if (ways > most) {
                    most = ways;
                    commonest = room;
                }
            }
            return commonest;
        }

        int roomsThen(int moment) {
            int rooms = 0;
            for (int room = 0; room < ROOMS; room++) {
                if (waysThrough(moment, room) > 0) {
                    rooms |= 1 << room;
                }
            }
            return rooms;
        }
    }
}
