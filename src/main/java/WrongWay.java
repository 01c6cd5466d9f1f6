/**
 * A house of floors and lifts, seen by those who wait: where each lift is, what comes first and
 * which way, how long one waits, and what a lift must be by what was seen of it.
 *
 * <p>The face checks every number and counts what it refuses; the classes inside it trust what they
 * are handed. All rows are made in constructors and used again, so that a call makes no object.
 */
public final class WrongWay {
    public static final int NONE = -1, BAD = -2, NO = -3, FULL = -4;

    private static final int LAST_MINUTE = 999;
    private static final int ARRIVALS = 120;
    private static final int WALK_A_FLOOR = 2;
    private static final int UP = 1;
    private static final int DOWN = 0;
    private static final int ANY_WAY = -1;
    private static final int DONE = 1;

    private final House now;
    private final House draft;
    private final House[] images;
    private final boolean[] kept;
    private final Watch watch;
    private final Text text;
    private final Fraction fraction;
    private final int[] refusals;

    public WrongWay() {
        now = new House();
        draft = new House();
        images = new House[] {new House(), new House()};
        kept = new boolean[2];
        watch = new Watch(now);
        text = new Text();
        fraction = new Fraction();
        refusals = new int[3];
    }

    // ---- a house

    public int house(int f) {
        if (!isWithin(f, 1, House.HIGHEST)) {
            return refuse(BAD);
        }
        int had = now.lifts;
        now.build(f);
        return had;
    }

    public int lift(int kind, int start) {
        if (!isWithin(kind, 0, Kinds.LAST) || !isWithin(start, 0, House.LAST_START)) {
            return refuse(BAD);
        }
        if (now.lifts >= House.LIFTS) {
            return refuse(FULL);
        }
        now.addLift(kind, start);
        return now.lifts - 1;
    }

    public int line(int a, int every, int at) {
        if (!isWithin(a, 0, 1) || !isWithin(every, 1, House.RAREST) || !isWithin(at, 0, House.LAST_AT)) {
            return refuse(BAD);
        }
        int had = 100 * now.every[a] + now.at[a];
        now.setLine(a, every, at);
        return had;
    }

    public int type(int c) {
        if (!isWithin(c, 0, 127)) {
            return refuse(BAD);
        }
        if (text.length >= Text.LONGEST) {
            return refuse(FULL);
        }
        text.add(c);
        return text.length;
    }

    public int clear() {
        int had = text.length;
        text.length = 0;
        return had;
    }

    public int read() {
        int items = text.readInto(draft);
        if (items > 0) {
            now.copy(draft);
        }
        return items;
    }

    // ---- minutes

    public int passes(int n) {
        if (!isWithin(n, 1, 99)) {
            return refuse(BAD);
        }
        now.goOn(Math.min(LAST_MINUTE, now.minute + n));
        return now.minute;
    }

    public int undo() {
        if (now.undos == 0) {
            return refuse(NO);
        }
        now.goBack();
        return now.minute;
    }

    public int of(int lift, int what) {
        if (!now.hasLift(lift) || !isWithin(what, 0, 5)) {
            return refuse(BAD);
        }
        int kind = now.kinds[lift];
        int floor = watch.floorOf(lift, now.minute);
        switch (what) {
            case 0: return kind;
            case 1: return now.starts[lift];
            case 2: return Kinds.round(kind, now.top);
            case 3: return floor;
            case 4: return watch.wayOf(lift, now.minute);
            default: return Kinds.opens(kind, now.top, floor) ? 1 : 0;
        }
    }

    public int where(int lift, int m) {
        if (!now.hasLift(lift) || !isMinute(m)) {
            return refuse(BAD);
        }
        return watch.floorOf(lift, m);
    }

    // ---- what comes first

    public int first(int f, int m, int what) {
        if (!now.hasFloor(f) || !isMinute(m) || !isWithin(what, 0, 2)) {
            return refuse(BAD);
        }
        int wait = watch.waitOn(f, m, ANY_WAY);
        if (wait == NONE || what == 2) {
            return wait;
        }
        return what == 0 ? watch.seenFrom(f, m + wait, ANY_WAY) : watch.wayOfFirst(f, m);
    }

    public int often(int f, int what) {
        if (!now.hasFloor(f) || !isWithin(what, 0, 1)) {
            return refuse(BAD);
        }
        return what == 0 ? chanceOfUp(f) : meanWait(f, ANY_WAY);
    }

    public int own(int f, int way) {
        if (!now.hasFloor(f) || !isWithin(way, DOWN, UP)) {
            return refuse(BAD);
        }
        return meanWait(f, way);
    }

    public int ride(int f, int to, int m, int what) {
        if (!now.hasFloor(f) || !now.hasFloor(to) || !isMinute(m) || !isWithin(what, 0, 1)) {
            return refuse(BAD);
        }
        int rightWay = to > f ? UP : DOWN;
        return watch.rideTime(f, to, m, what == 0 ? ANY_WAY : rightWay);
    }

    public int walk(int f, int to, int m, int what) {
        if (!now.hasFloor(f) || !now.hasFloor(to) || !isMinute(m) || !isWithin(what, 0, 1)) {
            return refuse(BAD);
        }
        // Walking all the way is always open; floors come from below, so that of like ones the lower stays.
        int best = to;
        int bestWalk = WALK_A_FLOOR * Math.abs(to - f);
        int bestTime = bestWalk;
        for (int floor = 0; floor <= now.top; floor++) {
            int walked = WALK_A_FLOOR * Math.abs(floor - f);
            int ridden = watch.rideTime(floor, to, m + walked, ANY_WAY);
            int time = walked + ridden;
            boolean better = time < bestTime || (time == bestTime && walked < bestWalk);
            if (ridden != NONE && better) {
                best = floor;
                bestWalk = walked;
                bestTime = time;
            }
        }
        return what == 0 ? best : bestTime;
    }

    public int lines() {
        fraction.set(now.turnsOfLine0(0), House.PLATFORM_MINUTES);
        return DONE;
    }

    public int even() {
        int best = 0;
        int bestOff = House.PLATFORM_MINUTES + 1;
        for (int shift = 0; shift <= House.LAST_AT; shift++) {
            int off = Math.abs(2 * now.turnsOfLine0(shift) - House.PLATFORM_MINUTES);
            if (off < bestOff) {
                best = shift;
                bestOff = off;
            }
        }
        return best;
    }

    // ---- what was seen

    public int note(int lift, int f, int m, int there) {
        if (!now.hasLift(lift) || !now.hasFloor(f) || !isWithin(m, 0, 99) || !isWithin(there, 0, 1)) {
            return refuse(BAD);
        }
        if (now.noted >= House.NOTED) {
            return refuse(FULL);
        }
        now.addNoted(lift, f, m, there);
        return now.noted;
    }

    public int forget() {
        int had = now.noted;
        now.noted = 0;
        return had;
    }

    public int is(int lift, int what) {
        if (!now.hasLift(lift) || !isWithin(what, 0, 1)) {
            return refuse(BAD);
        }
        return what == 0 ? watch.fittingKinds(lift) : watch.fittingStarts(lift);
    }

    public int look(int lift, int f) {
        if (!now.hasLift(lift) || !now.hasFloor(f)) {
            return refuse(BAD);
        }
        return watch.tellingMinute(lift, f);
    }

    public int porters(int f, int m, int n, int c) {
        if (!now.hasFloor(f) || !isMinute(m) || !isWithin(n, 0, 200) || !isWithin(c, 0, 10)) {
            return refuse(BAD);
        }
        // One waits longer only if every lift that would come in time is taken.
        long allTaken = 1;
        long all = 1;
        for (int lift = 0; lift < now.lifts; lift++) {
            int wait = watch.waitForLift(lift, f, m);
            if (wait != NONE && wait <= n) {
                allTaken *= c;
                all *= 10;
            }
        }
        fraction.set(all - allTaken, all);
        return DONE;
    }

    public int days(int f, int seed, int n) {
        if (!now.hasFloor(f) || !isWithin(seed, 0, 999999) || !isWithin(n, 0, 60)) {
            return refuse(BAD);
        }
        long x = seed;
        int ups = 0;
        for (int day = 0; day < n; day++) {
            x = (x * 1103515245L + 12345L) % 2147483648L;
            int minute = (int) (x / 65536 % ARRIVALS);
            if (watch.wayOfFirst(f, minute) == UP) {
                ups++;
            }
        }
        return ups;
    }

    // ---- what there is

    public long part(int what) {
        if (!isWithin(what, 0, 1)) {
            return refuse(BAD);
        }
        return what == 0 ? fraction.above : fraction.below;
    }

    public int image(int i) {
        if (!isWithin(i, 0, 1)) {
            return refuse(BAD);
        }
        images[i].copy(now);
        kept[i] = true;
        return DONE;
    }

    public int from(int i) {
        if (!isWithin(i, 0, 1)) {
            return refuse(BAD);
        }
        if (!kept[i]) {
            return refuse(NO);
        }
        now.copy(images[i]);
        return DONE;
    }

    public int status(int what) {
        if (!isWithin(what, 0, 2)) {
            refuse(BAD);
            return NONE;
        }
        return refusals[what];
    }

    public int count(int what) {
        switch (what) {
            case 0: return now.lifts;
            case 1: return now.top;
            case 2: return now.minute;
            case 3: return now.noted;
            case 4: return now.undos;
            case 5: return text.length;
            default: return refuse(BAD);
        }
    }

    public long digest() {
        long h = 1123;
        for (int what = 0; what <= 5; what++) {
            h = 31 * h + count(what);
        }
        h = now.digestOver(h);
        h = 31 * h + fraction.above;
        return 31 * h + fraction.below;
    }

    private int refuse(int reason) {
        int place = BAD - reason;
        if (isWithin(place, 0, 2)) {
            refusals[place]++;
        }
        return reason;
    }

    private static boolean isWithin(int n, int least, int most) {
        return n >= least && n <= most;
    }

    private static boolean isMinute(int m) {
        return isWithin(m, 0, LAST_MINUTE);
    }

    private int chanceOfUp(int f) {
        int came = 0;
        int ups = 0;
        for (int m = 0; m < ARRIVALS; m++) {
            int way = watch.wayOfFirst(f, m);
            if (way != NONE) {
                came++;
                ups += way;
            }
        }
        return setMean(ups, came);
    }

    private int meanWait(int f, int way) {
        int came = 0;
        int waited = 0;
        for (int m = 0; m < ARRIVALS; m++) {
            int wait = watch.waitOn(f, m, way);
            if (wait != NONE) {
                came++;
                waited += wait;
            }
        }
        return setMean(waited, came);
    }

    private int setMean(int sum, int came) {
        if (came == 0) {
            return refuse(NO);
        }
        fraction.set(sum, came);
        return DONE;
    }

    /** The kinds: PLAIN's round, and how each of the others departs from it. */
    private static final class Kinds {
        static final int LAST = 5;
        static final int LONGEST_ROUND = 2 * House.HIGHEST + 6;

        private static final int QUICK = 1;
        private static final int RESTS = 2;
        private static final int ODD = 3;
        private static final int LATE = 4;
        private static final int EXPRESS = 5;
        private static final int REST_BELOW = 4;
        private static final int STAND_ABOVE = 2;

        static int round(int kind, int top) {
            switch (kind) {
                case QUICK: return top;
                case RESTS: return 2 * top + REST_BELOW;
                case LATE: return 2 * top + REST_BELOW + STAND_ABOVE;
                default: return 2 * top;
            }
        }

        static int floorIn(int kind, int top, int start, int minute) {
            int round = round(kind, top);
            if (round < 1) {
                return 0;
            }
            int place = (minute + start) % round;
            if (kind == QUICK) {
                place = 2 * place;
            } else if (kind == LATE && place > top) {
                place = Math.max(top, place - STAND_ABOVE);
            }
            // Only a kind that rests has places behind PLAIN's last: it is below in them.
            int down = Math.max(0, 2 * top - place);
            return Math.min(place, down);
        }

        static boolean opens(int kind, int top, int floor) {
            switch (kind) {
                case ODD: return floor == 0 || floor % 2 == 1;
                case EXPRESS: return floor == 0 || floor == top;
                default: return true;
            }
        }
    }

    /** All that an image keeps: floors, lifts, lines, the minute, what was noted, what may be undone. */
    private static final class House {
        static final int HIGHEST = 11;
        static final int LIFTS = 4;
        static final int LAST_START = 99;
        static final int RAREST = 30;
        static final int LAST_AT = 29;
        static final int NOTED = 6;
        static final int UNDOS = 8;
        static final int PLATFORM_MINUTES = 60;

        int top;
        int lifts;
        int minute;
        int noted;
        int undos;
        final int[] kinds = new int[LIFTS];
        final int[] starts = new int[LIFTS];
        final int[] every = new int[2];
        final int[] at = new int[2];
        final int[] notedLifts = new int[NOTED];
        final int[] notedFloors = new int[NOTED];
        final int[] notedMinutes = new int[NOTED];
        final int[] notedThere = new int[NOTED];
        final int[] minutesBefore = new int[UNDOS];

        House() {
            build(HIGHEST);
        }

        void build(int floors) {
            top = floors;
            lifts = 0;
            minute = 0;
            noted = 0;
            undos = 0;
            setLine(0, 10, 0);
            setLine(1, 10, 0);
        }

        void copy(House other) {
            top = other.top;
            lifts = other.lifts;
            minute = other.minute;
            noted = other.noted;
            undos = other.undos;
            System.arraycopy(other.kinds, 0, kinds, 0, LIFTS);
            System.arraycopy(other.starts, 0, starts, 0, LIFTS);
            System.arraycopy(other.every, 0, every, 0, 2);
            System.arraycopy(other.at, 0, at, 0, 2);
            System.arraycopy(other.notedLifts, 0, notedLifts, 0, NOTED);
            System.arraycopy(other.notedFloors, 0, notedFloors, 0, NOTED);
            System.arraycopy(other.notedMinutes, 0, notedMinutes, 0, NOTED);
            System.arraycopy(other.notedThere, 0, notedThere, 0, NOTED);
            System.arraycopy(other.minutesBefore, 0, minutesBefore, 0, UNDOS);
        }

        boolean hasFloor(int floor) {
            return floor >= 0 && floor <= top;
        }

        boolean hasLift(int lift) {
            return lift >= 0 && lift < lifts;
        }

        void addLift(int kind, int start) {
            if (lifts >= LIFTS) {
                return;
            }
            kinds[lifts] = kind;
            starts[lifts] = start;
            lifts++;
            undos = 0;
        }

        void setLine(int line, int newEvery, int newAt) {
            every[line] = newEvery;
            at[line] = newAt;
        }

        void addNoted(int lift, int floor, int noteMinute, int there) {
            if (noted >= NOTED) {
                return;
            }
            notedLifts[noted] = lift;
            notedFloors[noted] = floor;
            notedMinutes[noted] = noteMinute;
            notedThere[noted] = there;
            noted++;
        }

        void goOn(int newMinute) {
            if (undos >= UNDOS) {
                System.arraycopy(minutesBefore, 1, minutesBefore, 0, UNDOS - 1);
                undos = UNDOS - 1;
            }
            minutesBefore[undos] = minute;
            undos++;
            minute = newMinute;
        }

        void goBack() {
            if (undos > 0) {
                undos--;
                minute = minutesBefore[undos];
            }
        }

        /** In how many minutes of the platform's line 0 is the next one, line 1 being shifted. */
        int turnsOfLine0(int shift) {
            int shifted = (at[1] + shift) % (LAST_AT + 1);
            int turns = 0;
            for (int m = 0; m < PLATFORM_MINUTES; m++) {
                if (nextTrain(every[0], at[0], m) <= nextTrain(every[1], shifted, m)) {
                    turns++;
                }
            }
            return turns;
        }

        private static int nextTrain(int every, int at, int m) {
            if (m <= at || every < 1) {
                return at;
            }
            int gone = (m - at) % every;
            return gone == 0 ? m : m + every - gone;
        }

        long digestOver(long before) {
            long h = before;
            for (int lift = 0; lift < lifts; lift++) {
                h = 31 * h + kinds[lift];
                h = 31 * h + starts[lift];
            }
            for (int line = 0; line < 2; line++) {
                h = 31 * h + every[line];
                h = 31 * h + at[line];
            }
            for (int i = 0; i < noted; i++) {
                h = 31 * h + notedLifts[i];
                h = 31 * h + notedFloors[i];
                h = 31 * h + notedMinutes[i];
                h = 31 * h + notedThere[i];
            }
            return h;
        }
    }

    /**
     * What can be seen of a house. The document looks 200 minutes ahead; no round is as long, so what
     * is not seen in the longest round is not seen in the 200, and one round is looked through.
     */
    private static final class Watch {
        private static final int LAST_LOOK = 30;

        private final House house;

        Watch(House house) {
            this.house = house;
        }

        int floorOf(int lift, int m) {
            return Kinds.floorIn(house.kinds[lift], house.top, house.starts[lift], m);
        }

        int wayOf(int lift, int m) {
            int kind = house.kinds[lift];
            int start = house.starts[lift];
            int floor = Kinds.floorIn(kind, house.top, start, m);
            for (int behind = 1; behind < Kinds.LONGEST_ROUND; behind++) {
                int next = Kinds.floorIn(kind, house.top, start, m + behind);
                if (next != floor) {
                    return next > floor ? UP : DOWN;
                }
            }
            return DOWN;
        }

        private boolean isSeen(int lift, int f, int m) {
            int kind = house.kinds[lift];
            return Kinds.opens(kind, house.top, f)
                    && Kinds.floorIn(kind, house.top, house.starts[lift], m) == f;
        }

        /** The least lift that is seen from f in minute m, going that way; or none. */
        int seenFrom(int f, int m, int way) {
            for (int lift = 0; lift < house.lifts; lift++) {
                if (isSeen(lift, f, m) && (way == ANY_WAY || wayOf(lift, m) == way)) {
                    return lift;
                }
            }
            return NONE;
        }

        /** How many minutes from m on till some lift is seen from f, going that way; or none. */
        int waitOn(int f, int m, int way) {
            for (int wait = 0; wait < Kinds.LONGEST_ROUND; wait++) {
                if (seenFrom(f, m + wait, way) != NONE) {
                    return wait;
                }
            }
            return NONE;
        }

        int waitForLift(int lift, int f, int m) {
            for (int wait = 0; wait < Kinds.LONGEST_ROUND; wait++) {
                if (isSeen(lift, f, m + wait)) {
                    return wait;
                }
            }
            return NONE;
        }

        int wayOfFirst(int f, int m) {
            int wait = waitOn(f, m, ANY_WAY);
            if (wait == NONE) {
                return NONE;
            }
            int lift = seenFrom(f, m + wait, ANY_WAY);
            return lift == NONE ? NONE : wayOf(lift, m + wait);
        }

        /** In how many minutes from m one is there, by the first lift that comes going that way. */
        int rideTime(int f, int to, int m, int way) {
            if (f == to) {
                return 0;
            }
            int wait = waitOn(f, m, way);
            if (wait == NONE) {
                return NONE;
            }
            int lift = seenFrom(f, m + wait, way);
            int ridden = lift == NONE ? NONE : waitForLift(lift, to, m + wait);
            return ridden == NONE ? NONE : wait + ridden;
        }

        private boolean fits(int lift, int kind, int start) {
            for (int i = 0; i < house.noted; i++) {
                if (house.notedLifts[i] == lift) {
                    int floor = Kinds.floorIn(kind, house.top, start, house.notedMinutes[i]);
                    boolean there = floor == house.notedFloors[i];
                    if (there != (house.notedThere[i] == 1)) {
                        return false;
                    }
                }
            }
            return true;
        }

        /** The kinds that the lift may be by what was noted of it, a bit each. */
        int fittingKinds(int lift) {
            int bits = 0;
            for (int kind = 0; kind <= Kinds.LAST; kind++) {
                if (fits(lift, kind, house.starts[lift])) {
                    bits |= 1 << kind;
                }
            }
            return bits;
        }

        int fittingStarts(int lift) {
            int fitting = 0;
            for (int start = 0; start <= House.LAST_START; start++) {
                if (fits(lift, house.kinds[lift], start)) {
                    fitting++;
                }
            }
            return fitting;
        }

        /** The minute in which a look at f leaves the fewest kinds, however it turns out; or none. */
        int tellingMinute(int lift, int f) {
            int bits = fittingKinds(lift);
            int all = Integer.bitCount(bits);
            int best = NONE;
            int fewest = all + 1;
            for (int m = 0; all > 0 && m <= LAST_LOOK; m++) {
                int there = kindsThere(bits, house.starts[lift], f, m);
                int left = Math.max(there, all - there);
                if (left < fewest) {
                    best = m;
                    fewest = left;
                }
            }
            return best;
        }

        private int kindsThere(int bits, int start, int f, int m) {
            int there = 0;
            for (int kind = 0; kind <= Kinds.LAST; kind++) {
                boolean possible = (bits >> kind & 1) == 1;
                if (possible && Kinds.floorIn(kind, house.top, start, m) == f) {
                    there++;
                }
            }
            return there;
        }
    }

    /** THE TEXT, and how a house is read from it, token by token. */
    private static final class Text {
        static final int LONGEST = 150;

        private static final int END = 0;
        private static final int WORD = 1;
        private static final int NUMBER = 2;
        private static final int SEMICOLON = 3;
        private static final int NO_TOKEN = 4;

        private final byte[] bytes = new byte[LONGEST];
        int length;
        private int token;
        private int tokenStart;
        private int tokenEnd;
        private int value;

        void add(int c) {
            if (length < LONGEST) {
                bytes[length] = (byte) c;
                length++;
            }
        }

        /** How many items were read into the house, or -10 less the place of the fault. */
        int readInto(House house) {
            tokenEnd = 0;
            nextToken();
            if (!readHouse(house)) {
                return -10 - tokenStart;
            }
            int items = 1;
            for (nextToken(); token != END && items < LONGEST; nextToken()) {
                if (!readItem(house)) {
                    return -10 - tokenStart;
                }
                items++;
            }
            return items;
        }

        private boolean readHouse(House house) {
            if (!isWord("house") || !nextIsNumber(1, House.HIGHEST)) {
                return false;
            }
            house.build(value);
            return nextIsSemicolon();
        }

        private boolean readItem(House house) {
            if (isWord("lift") && house.lifts < House.LIFTS) {
                return readLift(house);
            }
            return isWord("line") && readLine(house);
        }

        private boolean readLift(House house) {
            if (!nextIsNumber(0, Kinds.LAST)) {
                return false;
            }
            int kind = value;
            if (!nextIsNumber(0, House.LAST_START)) {
                return false;
            }
            house.addLift(kind, value);
            return nextIsSemicolon();
        }

        private boolean readLine(House house) {
            if (!nextIsNumber(0, 1)) {
                return false;
            }
            int line = value;
            if (!nextIsNumber(1, House.RAREST)) {
                return false;
            }
            int every = value;
            if (!nextIsNumber(0, House.LAST_AT)) {
                return false;
            }
            house.setLine(line, every, value);
            return nextIsSemicolon();
        }

        private boolean isWord(String word) {
            if (token != WORD || tokenEnd - tokenStart != word.length()) {
                return false;
            }
            for (int i = 0; i < word.length(); i++) {
                if (bytes[tokenStart + i] != word.charAt(i)) {
                    return false;
                }
            }
            return true;
        }

        private boolean nextIsNumber(int least, int most) {
            nextToken();
            return token == NUMBER && isWithin(value, least, most);
        }

        private boolean nextIsSemicolon() {
            nextToken();
            return token == SEMICOLON;
        }

        private void nextToken() {
            int at = tokenEnd;
            while (at < length && bytes[at] == ' ') {
                at++;
            }
            tokenStart = at;
            if (at >= length) {
                token = END;
            } else if (isLetter(bytes[at])) {
                token = WORD;
                at = endOfWord(at);
            } else if (isFigure(bytes[at])) {
                token = NUMBER;
                at = endOfNumber(at);
                value = valueOf(tokenStart, at);
            } else {
                token = bytes[at] == ';' ? SEMICOLON : NO_TOKEN;
                at++;
            }
            tokenEnd = at;
        }

        private int endOfWord(int from) {
            int at = from;
            while (at < length && isLetter(bytes[at])) {
                at++;
            }
            return at;
        }

        private int endOfNumber(int from) {
            int at = from;
            while (at < length && isFigure(bytes[at])) {
                at++;
            }
            return at;
        }

        private int valueOf(int from, int to) {
            if (to - from > 2) {
                return NONE;
            }
            int sum = 0;
            for (int at = from; at < to; at++) {
                sum = 10 * sum + bytes[at] - '0';
            }
            return sum;
        }

        private static boolean isLetter(byte b) {
            return b >= 'a' && b <= 'z';
        }

        private static boolean isFigure(byte b) {
            return b >= '0' && b <= '9';
        }
    }

    /** THE FRACTION, always in lowest terms. */
    private static final class Fraction {
        // Far more steps than Euclid's way takes with any two longs.
        private static final int MOST_STEPS = 100;

        long above = 0;
        long below = 1;

        void set(long newAbove, long newBelow) {
            long divisor = commonDivisor(newAbove, newBelow);
            if (divisor > 0) {
                above = newAbove / divisor;
                below = newBelow / divisor;
            }
        }

        private static long commonDivisor(long a, long b) {
            long greater = a;
            long rest = b;
            for (int step = 0; step < MOST_STEPS && rest != 0; step++) {
                long left = greater % rest;
                greater = rest;
                rest = left;
            }
            return greater;
        }
    }
}
