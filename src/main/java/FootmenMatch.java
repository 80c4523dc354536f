/**
 * The footmen match: men in rooms along a house who take on the state of whoever pulls them most, step by step.
 * What each call answers is told by ../shared/DOC.md; words in capitals here are that document's terms.
 */
public final class FootmenMatch {
    public static final int NONE = -1, BAD = -2, STATE = -3, FULL = -4;
    public static final long NO = Long.MIN_VALUE;

    private static final int MISSING = -5, OTHER_KIND = -6, NO_PULL = -999999, BEFORE_FAULT = -10;
    private static final int MOST_MEN = 6, MOST_HOUSES = 5, MOST_SIGNS = 100, MOST_CLAUSES = 10, MOST_OPEN = 5;
    private static final int MOST_SEEN = 6, MOST_ROWS = 8, MOST_KEPT = 20;
    private static final int LAST_STEP = 9999, FAR_ON = 60, NEAR_ON = 20, ROOMED_STEPS = 3, ROOMED_WAYS = 720;
    private static final int DIGITS = 10, ROW_SIZE = 4, WIDEST_REACH = 9;

    private static final int PIOUS = 1, LENT = 2, STOUT = 3, BEADLE = 4, FAR = 5, TOLD = 6, KINDS = 7;
    /** The KIND that each KIND is under. */
    private static final int[] ABOVE = {-1, 0, 0, 0, 1, 2, 3};

    private static final int ROOM_OF = 0, STATE_OF = 1, NUMBER_OF = 2;
    private static final int PLAN_STEP = 0, PLAN_AWAY = 1, PLAN_BACK = 2, PLAN_ROOM = 3;

    private static final int BOWS = 0, SERVES = 1, WEEPS = 2, ACTS = 3;
    /** The body that each KIND has of its own, by act and KIND; 0 for none. */
    private static final int[] BODIES = {
        1, 11, 0, 0, 0, 51, 0,
        2, 0, 21, 0, 0, 0, 61,
        3, 0, 0, 31, 41, 0, 0};
    /** The deepest that bodies call one another is 5; more is refused. */
    private static final int DEEPEST_BODY = 20;

    /** What a TEST may ask about; the place of a letter is also the place of its value among the facts. */
    private static final String LETTERS = "pqksdt";
    private static final int FACTS = 6, NOT = 6, AND = 7, OR = 8, HEED = 9, SHUN = 10;

    private final Whole now = new Whole();
    private final Whole kept = new Whole();
    private boolean taken;
    private final House[] houses = new House[MOST_HOUSES];
    private final Pulls pulls = new Pulls();
    private final Trials trials = new Trials(pulls);
    private final Body body = new Body();

    public FootmenMatch() {
        for (int i = 0; i < houses.length; i++) {
            houses[i] = new House();
        }
    }

    // ---- houses, footmen

    public int feed(int sign) {
        if (sign < 0 || sign > 127) {
            return BAD;
        }
        return now.tape.add(sign) ? now.tape.size : FULL;
    }

    public int house() {
        if (now.houses >= houses.length) {
            return FULL;
        }
        Reader reader = new Reader(now.tape, houses[now.houses]);
        boolean stands = reader.readHouse();
        now.tape.size = 0;
        if (!stands) {
            return BEFORE_FAULT - reader.at;
        }
        now.houses++;
        forgetWorked();
        return now.houses - 1;
    }

    public int man(int kind, int v, int room, int state) {
        if (kind < 0 || kind >= KINDS || !isDigit(room) || !isDigit(state)) {
            return NONE;
        }
        if (!isDigit(v)) {
            return BAD;
        }
        int man = now.scene.add(kind, v, room, state);
        if (man < 0) {
            return FULL;
        }
        forgetWorked();
        return man;
    }

    public int of(int man, int what) {
        if (!now.scene.has(man)) {
            return NONE;
        }
        Scene scene = now.scene;
        switch (what) {
            case 0: return scene.kind[man];
            case 1: return scene.number[man];
            case 2: return scene.room[man];
            case 3: return scene.state[man];
            case 4: return scene.away >> man & 1;
            case 5: return orMissing(pulls.leaderOf(scene, man));
            case 6: return scene.nextOf(man, pulls.leaderOf(scene, man));
            default: return NONE;
        }
    }

    public int pull(int man, int other) {
        if (!now.scene.has(man) || !now.scene.has(other) || man == other) {
            return NO_PULL;
        }
        return pulls.onBy(now.scene, man, other);
    }

    public int row(int man, int k, int n) {
        if (!now.scene.has(man) || k < 0 || k >= ROW_SIZE) {
            return NONE;
        }
        if (!isDigit(n)) {
            return BAD;
        }
        if (now.scene.kind[man] != TOLD) {
            return STATE;
        }
        int place = man * ROW_SIZE + k;
        int was = now.scene.rows[place];
        now.scene.rows[place] = n;
        forgetWorked();
        return was;
    }

    public int set(int man, int what, int n) {
        if (!now.scene.has(man) || what != ROOM_OF && what != STATE_OF || !isDigit(n)) {
            return NONE;
        }
        int was = what == ROOM_OF ? now.scene.room[man] : now.scene.state[man];
        now.scene.change(man, what, n);
        forgetWorked();
        return was;
    }

    public int away(int man, boolean is) {
        if (!now.scene.has(man)) {
            return NONE;
        }
        int was = now.scene.away >> man & 1;
        now.scene.send(man, is);
        forgetWorked();
        return was;
    }

    public int told(int what) {
        switch (what) {
            case 0: return now.scene.step;
            case 1: return pulls.reach();
            case 2: return now.scene.unlikeStates();
            case 3: return trials.settles(now.scene);
            case 4: return now.scene.away;
            default: return NONE;
        }
    }

    public int pass(int n) {
        if (n < 0 || n > FAR_ON) {
            return BAD;
        }
        if (now.scene.step + n > LAST_STEP) {
            return STATE;
        }
        for (int i = 0; i < n; i++) {
            now.scene.goOneStep(pulls);
        }
        forgetWorked();
        return now.scene.step;
    }

    // ---- steps to come

    public int on(int n, int what) {
        if (what != 0 && (what < 10 || !now.scene.has(what - 10))) {
            return NONE;
        }
        if (n < 0 || n > FAR_ON) {
            return BAD;
        }
        trials.begin(now.scene);
        trials.goOn(n);
        return what == 0 ? trials.trial.unlikeStates() : trials.trial.state[what - 10];
    }

    public int steer(int man, int state) {
        if (!now.scene.has(man) || !isDigit(state)) {
            return NONE;
        }
        // Changing the told one itself takes 0 STEPS, and no other change takes fewer, nor as few unless it
        // is in that STATE already. One who is AWAY has no LEADER, so only its own change, not allowed, tells on it.
        boolean steered = !now.scene.isAway(man) && now.scene.state[man] != state;
        return steered ? man * 10 + state : MISSING;
    }

    public int tells(int man, int n) {
        if (!now.scene.has(man)) {
            return NONE;
        }
        if (n < 0 || n > NEAR_ON) {
            return BAD;
        }
        return trials.toldOn(now.scene, man, n);
    }

    public int roomed(int k) {
        if (k < -1 || k >= MOST_MEN) {
            return NONE;
        }
        trials.findRooms(now.scene);
        if (k == -1) {
            return trials.fewest;
        }
        return k < now.scene.count ? trials.whose[k] : MISSING;
    }

    // ---- seen, odds; part 0 above, 1 below the line

    public int see(int man, int n, int state) {
        if (man == -1) {
            now.seen.size = 0;
            return 0;
        }
        if (!now.scene.has(man) || !isDigit(state)) {
            return NONE;
        }
        if (n < 0 || n > NEAR_ON) {
            return BAD;
        }
        return now.seen.add(MOST_SEEN, man, n, state);
    }

    public int states(int man) {
        return now.scene.has(man) ? trials.fitting(now, man, STATE_OF) : NONE;
    }

    public int where(int man) {
        return now.scene.has(man) ? trials.fitting(now, man, ROOM_OF) : NONE;
    }

    public int firm(int man, int what) {
        if (!now.scene.has(man) || what != 0 && what != 1) {
            return NONE;
        }
        int numbers = trials.fitting(now, man, NUMBER_OF);
        return what == 0 ? Integer.bitCount(numbers) : orMissing(leastOf(numbers));
    }

    public long odds(int man, int other, int state, int n, int part) {
        boolean known = now.scene.has(man) && now.scene.has(other) && isDigit(state);
        if (!known || n < 0 || n > FAR_ON || part != 0 && part != 1) {
            return NO;
        }
        int ways = trials.waysTo(now.scene, man, other, state, n);
        return partOf(ways, DIGITS, part);
    }

    public long mean(int part) {
        int present = now.scene.present();
        if (present == 0 || part != 0 && part != 1) {
            return NO;
        }
        return partOf(now.scene.sumOfStates(false), present, part);
    }

    // ---- plans, books

    public int plan(int what, int n) {
        if (what == -1) {
            now.plan.size = 0;
            return 0;
        }
        if (!isPlanned(what, n)) {
            return NONE;
        }
        return now.plan.add(MOST_ROWS, what, n, 0);
    }

    public int done(int what) {
        if (what != 0 && what != 1) {
            return NONE;
        }
        trials.begin(now.scene);
        trials.goByPlan(now.plan);
        return what == 0 ? trials.trial.unlikeStates() : trials.trial.sumOfStates(true);
    }

    public int book(int man, int state) {
        if (man == -1) {
            now.book.size = 0;
            return 0;
        }
        if (!now.scene.has(man) || !isDigit(state)) {
            return NONE;
        }
        return now.book.add(MOST_ROWS, man, state, 0);
    }

    public int looked() {
        Rows book = now.book;
        for (int i = 0; i < book.size && i < MOST_ROWS; i++) {
            int man = book.first[i];
            if (now.scene.has(man) && now.scene.state[man] != book.second[i]) {
                return i;
            }
        }
        return MISSING;
    }

    // ---- acts, the image

    public int act(int footman, int act, int x) {
        body.ran = 0;
        if (!now.scene.has(footman) || act < 0 || act >= ACTS) {
            return 0;
        }
        body.man = footman;
        body.kind = now.scene.kind[footman];
        body.number = now.scene.number[footman];
        return body.begin(act, x);
    }

    public int trace(int i) {
        return i >= 0 && i < body.ran && i < MOST_KEPT ? body.trace[i] : NONE;
    }

    public int as(int footman, int k) {
        if (!now.scene.has(footman) || k < 0 || k >= KINDS) {
            return NONE;
        }
        return isUnder(now.scene.kind[footman], k) ? now.scene.number[footman] : OTHER_KIND;
    }

    public int image() {
        kept.copyFrom(now);
        taken = true;
        return now.scene.count;
    }

    public int undo() {
        if (!taken) {
            return STATE;
        }
        // The HOUSES themselves need no copy: those of THE IMAGE are never written over while it is the image,
        // as there are never fewer than it has and a new one goes behind them.
        now.copyFrom(kept);
        forgetWorked();
        return now.scene.count;
    }

    public int count(int what) {
        switch (what) {
            case 0: return now.scene.count;
            case 1: return now.houses;
            case 2: return now.seen.size;
            case 3: return now.plan.size;
            case 4: return now.book.size;
            case 5: return now.tape.size;
            case 6: return body.ran;
            default: return NONE;
        }
    }

    /** What was worked out before is stale behind any change of FOOTMEN, HOUSES or STEP. */
    private void forgetWorked() {
        int newest = now.houses - 1;
        pulls.hold(newest >= 0 && newest < houses.length ? houses[newest] : null);
        trials.roomsFound = false;
    }

    private boolean isPlanned(int what, int n) {
        switch (what) {
            case PLAN_STEP: return true;
            case PLAN_AWAY: return now.scene.has(n);
            case PLAN_BACK: return now.scene.has(n);
            // -1 / 10 is 0: below 0 there is no FOOTMAN all the same.
            case PLAN_ROOM: return n >= 0 && now.scene.has(n / 10);
            default: return false;
        }
    }

    private static boolean isDigit(int n) {
        return n >= 0 && n < DIGITS;
    }

    private static int orMissing(int n) {
        return n < 0 ? MISSING : n;
    }

    private static int leastOf(int bits) {
        for (int i = 0; i < DIGITS; i++) {
            if ((bits >> i & 1) != 0) {
                return i;
            }
        }
        return -1;
    }

    /** A part of above / below in lowest terms; below is 1 or more. */
    private static long partOf(int above, int below, int part) {
        for (int by = below; by > 1; by--) {
            if (above % by == 0 && below % by == 0) {
                return part == 0 ? above / by : below / by;
            }
        }
        return part == 0 ? above : below;
    }

    private static int kindAbove(int kind) {
        return kind >= 0 && kind < ABOVE.length ? ABOVE[kind] : -1;
    }

    private static boolean isUnder(int kind, int top) {
        int at = kind;
        for (int up = 0; up < KINDS && at >= 0; up++) {
            if (at == top) {
                return true;
            }
            at = kindAbove(at);
        }
        return false;
    }

    /** THE TAPE. */
    private static final class Tape {
        final int[] signs = new int[MOST_SIGNS];
        int size;

        boolean add(int sign) {
            if (size < 0 || size >= signs.length) {
                return false;
            }
            signs[size] = sign;
            size++;
            return true;
        }

        void copyFrom(Tape other) {
            System.arraycopy(other.signs, 0, signs, 0, MOST_SIGNS);
            size = other.size;
        }
    }

    /**
     * CLAUSES as a row of orders, parts ahead of what joins them: a TEST leaves a bit, NOT, AND and OR work on the
     * last bits, HEED and SHUN weigh the one that is left. An order is 16 times its number, and its sort.
     */
    private static final class House {
        final int[] orders = new int[MOST_SIGNS];
        int size;
        int reach;

        void clear() {
            size = 0;
            reach = WIDEST_REACH;
        }

        /** There is room for all: no order is told by less than one sign of THE TAPE. */
        void put(int sort, int n) {
            if (size >= 0 && size < orders.length) {
                orders[size] = n * 16 + sort;
                size++;
            }
        }

        /** What all heed and shun, together, add to a PULL. */
        int weigh(int[] facts) {
            int sum = 0;
            int bits = 0;
            for (int at = 0; at < size && at < orders.length; at++) {
                int sort = orders[at] & 15;
                int n = orders[at] >> 4;
                if (sort < facts.length) {
                    bits = (bits << 1) | ((n >> facts[sort]) & 1);
                } else if (sort == NOT) {
                    bits = bits ^ 1;
                } else if (sort == AND) {
                    bits = (bits >> 1) & (bits | ~1);
                } else if (sort == OR) {
                    bits = (bits >> 1) | (bits & 1);
                } else {
                    int weight = bits == 0 ? 0 : n;
                    sum += sort == HEED ? weight : -weight;
                    bits = 0;
                }
            }
            return sum;
        }
    }

    /** Reads THE TAPE from the left on, never looking ahead: where it stops by a FAULT, at is the FAULT. */
    private static final class Reader {
        private final Tape tape;
        private final House house;
        private int number;
        int at;

        Reader(Tape from, House into) {
            tape = from;
            house = into;
        }

        boolean readHouse() {
            house.clear();
            for (int clauses = 1; clauses <= MOST_CLAUSES; clauses++) {
                if (!readClause()) {
                    return false;
                }
                int sign = sign();
                if (sign < 0) {
                    return true;
                }
                if (sign != ';' || clauses == MOST_CLAUSES) {
                    return false;
                }
                at++;
            }
            return false;
        }

        private boolean readClause() {
            int first = sign();
            if (!readWord(first == 'r' ? "reach " : first == 'h' ? "heed " : "shun ") || !readNumber()) {
                return false;
            }
            int n = number;
            if (first == 'r') {
                house.reach = n;
                return true;
            }
            if (!readWord(" ") || !readEither(0)) {
                return false;
            }
            house.put(first == 'h' ? HEED : SHUN, n);
            return true;
        }

        /** E: what & joins is ended ahead of what | joins. open tells how many of ! and ( are open. */
        private boolean readEither(int open) {
            boolean and = false;
            boolean or = false;
            for (int parts = 0; parts < MOST_SIGNS; parts++) {
                if (!readOne(open)) {
                    return false;
                }
                if (and) {
                    house.put(AND, 0);
                }
                and = sign() == '&';
                if (!and) {
                    if (or) {
                        house.put(OR, 0);
                    }
                    or = sign() == '|';
                    if (!or) {
                        return true;
                    }
                }
                at++;
            }
            return false;
        }

        /** F: its own ! are open till its end, so they are done from the last on behind it. */
        private boolean readOne(int open) {
            int nots = 0;
            while (sign() == '!' && open + nots < MOST_OPEN) {
                nots++;
                at++;
            }
            boolean stands = sign() == '(' ? readInBrackets(open + nots) : readTest();
            for (int i = 0; i < nots && stands; i++) {
                house.put(NOT, 0);
            }
            return stands;
        }

        private boolean readInBrackets(int open) {
            if (open >= MOST_OPEN) {
                return false;
            }
            at++;
            return readEither(open + 1) && readWord(")");
        }

        private boolean readTest() {
            int letter = placeOfLetter(sign());
            if (letter < 0) {
                return false;
            }
            at++;
            int sign = sign();
            if (sign != '<' && sign != '=' && sign != '>') {
                return false;
            }
            at++;
            if (!readNumber()) {
                return false;
            }
            house.put(letter, valuesBy(sign, number));
            return true;
        }

        private boolean readWord(String word) {
            for (int i = 0; i < word.length(); i++) {
                if (sign() != word.charAt(i)) {
                    return false;
                }
                at++;
            }
            return true;
        }

        private boolean readNumber() {
            int sign = sign();
            if (sign < '0' || sign > '9') {
                return false;
            }
            at++;
            number = sign - '0';
            sign = sign();
            if (number != 0 && sign >= '0' && sign <= '9') {
                number = number * 10 + sign - '0';
                at++;
            }
            return true;
        }

        /** The sign at the place read, -1 behind the last. */
        private int sign() {
            return at >= 0 && at < tape.size && at < MOST_SIGNS ? tape.signs[at] : -1;
        }

        private static int placeOfLetter(int sign) {
            for (int i = 0; i < LETTERS.length(); i++) {
                if (LETTERS.charAt(i) == sign) {
                    return i;
                }
            }
            return -1;
        }

        /** Those values, as bits, by which a TEST holds: all that it can ask about is 0 .. 9. */
        private static int valuesBy(int sign, int n) {
            int values = 0;
            for (int value = 0; value < DIGITS; value++) {
                boolean holds = sign == '<' ? value < n : sign == '=' ? value == n : value > n;
                values |= holds ? 1 << value : 0;
            }
            return values;
        }
    }

    /** FOOTMEN and STEP, with how they go on. */
    private static final class Scene {
        final int[] kind = new int[MOST_MEN];
        final int[] number = new int[MOST_MEN];
        final int[] room = new int[MOST_MEN];
        final int[] state = new int[MOST_MEN];
        final int[] rows = new int[MOST_MEN * ROW_SIZE];
        private final int[] next = new int[MOST_MEN];
        int away;
        int count;
        int step;

        boolean has(int man) {
            return man >= 0 && man < count && man < MOST_MEN;
        }

        boolean isAway(int man) {
            return (away >> man & 1) != 0;
        }

        /** The new one's number, -1 if there are as many as may be. */
        int add(int itsKind, int v, int itsRoom, int itsState) {
            if (count < 0 || count >= MOST_MEN) {
                return -1;
            }
            int man = count;
            kind[man] = itsKind;
            number[man] = v;
            room[man] = itsRoom;
            state[man] = itsState;
            count++;
            return man;
        }

        void copyFrom(Scene other) {
            System.arraycopy(other.kind, 0, kind, 0, MOST_MEN);
            System.arraycopy(other.number, 0, number, 0, MOST_MEN);
            System.arraycopy(other.room, 0, room, 0, MOST_MEN);
            System.arraycopy(other.state, 0, state, 0, MOST_MEN);
            System.arraycopy(other.rows, 0, rows, 0, MOST_MEN * ROW_SIZE);
            away = other.away;
            count = other.count;
            step = other.step;
        }

        void change(int man, int what, int n) {
            if (!has(man)) {
                return;
            }
            if (what == ROOM_OF) {
                room[man] = n;
            } else if (what == STATE_OF) {
                state[man] = n;
            } else {
                number[man] = n;
            }
        }

        void send(int man, boolean is) {
            if (has(man)) {
                away = is ? away | 1 << man : away & ~(1 << man);
            }
        }

        int apart(int one, int other) {
            if (one < 0 || other < 0 || one >= room.length || other >= room.length) {
                return 0;
            }
            int rooms = room[one] - room[other];
            return rooms < 0 ? -rooms : rooms;
        }

        /** NEXT of one that has this LEADER, below 0 for none. */
        int nextOf(int one, int leader) {
            if (!has(one)) {
                return 0;
            }
            int own = state[one];
            if (!has(leader)) {
                return own;
            }
            int his = state[leader];
            int greater = his > own ? his : own;
            boolean even = step % 2 == 0;
            switch (kind[one]) {
                case PIOUS: return greater;
                case LENT: return even ? his : own;
                case STOUT: return (his + own) / 2;
                case BEADLE: return step % 5 == 0 && greater < 9 ? greater + 1 : greater;
                case FAR: return even && apart(one, leader) <= number[one] ? his : own;
                case TOLD: return ((his + own) / 2 + rows[one * ROW_SIZE + step % ROW_SIZE]) % 10;
                default: return his;
            }
        }

        void goOneStep(Pulls pulls) {
            for (int i = 0; i < count && i < MOST_MEN; i++) {
                next[i] = nextOf(i, pulls.leaderOf(this, i));
            }
            System.arraycopy(next, 0, state, 0, MOST_MEN);
            step++;
        }

        /** UNLIKE. */
        int unlikeStates() {
            int met = 0;
            for (int i = 0; i < count && i < MOST_MEN; i++) {
                met |= isAway(i) ? 0 : 1 << state[i];
            }
            return Integer.bitCount(met);
        }

        int present() {
            return count - Integer.bitCount(away);
        }

        int sumOfStates(boolean withAway) {
            int sum = 0;
            for (int i = 0; i < count && i < MOST_MEN; i++) {
                sum += withAway || !isAway(i) ? state[i] : 0;
            }
            return sum;
        }
    }

    /** PULL and LEADER by the HOUSE that holds. */
    private static final class Pulls {
        /** What a HOUSE weighs is -990 .. 990: lifted, it is above 0 and below the span. */
        private static final int LIFT = 1024, SPAN = 2048;

        private House house;
        private final int[] facts = new int[FACTS];
        /**
         * What the HOUSE weighed by both numbers, STATE, rooms APART and STEP: asks weigh the same over and over.
         * Only an object that gets a HOUSE pays for the room it takes.
         */
        private int[] weighed = new int[0];
        /** What was weighed under an older stamp is stale. */
        private int stamp = 1;

        /** The HOUSE that holds from now on, null for none. */
        void hold(House held) {
            house = held;
            stamp++;
            if (held != null && weighed.length == 0) {
                weighed = new int[MOST_MEN * MOST_MEN * DIGITS * DIGITS * DIGITS];
            }
        }

        int reach() {
            return house == null ? WIDEST_REACH : house.reach;
        }

        int onBy(Scene scene, int one, int other) {
            if (!scene.has(one) || !scene.has(other)) {
                return 0;
            }
            int apart = scene.apart(one, other);
            if (house == null) {
                return 10 - apart;
            }
            int time = scene.step % DIGITS;
            int state = scene.state[other];
            int place = (((one * MOST_MEN + other) * DIGITS + state) * DIGITS + apart) * DIGITS + time;
            if (place < 0 || place >= weighed.length) {
                return 10 - apart;
            }
            if (weighed[place] / SPAN != stamp) {
                facts[0] = one;
                facts[1] = other;
                facts[2] = scene.kind[one];
                facts[3] = state;
                facts[4] = apart;
                facts[5] = time;
                weighed[place] = stamp * SPAN + LIFT + house.weigh(facts);
            }
            return 10 - apart + weighed[place] % SPAN - LIFT;
        }

        /** LEADER of one, -1 for none. */
        int leaderOf(Scene scene, int one) {
            int leader = -1;
            if (scene.isAway(one)) {
                return leader;
            }
            int greatest = 0;
            int reach = reach();
            for (int other = 0; other < scene.count; other++) {
                if (other != one && !scene.isAway(other) && scene.apart(one, other) <= reach) {
                    int pull = onBy(scene, one, other);
                    if (pull > greatest) {
                        greatest = pull;
                        leader = other;
                    }
                }
            }
            return leader;
        }
    }

    /** What would be: all is tried on a scene of its own, so that nothing that is changes. */
    private static final class Trials {
        final Scene trial = new Scene();
        private final Pulls pulls;
        /** ROOMED: how many, whose ROOM each has, and whether the two are those of how all is. */
        int fewest;
        final int[] whose = new int[MOST_MEN];
        boolean roomsFound;
        private final int[] way = new int[MOST_MEN];

        Trials(Pulls pulls) {
            this.pulls = pulls;
        }

        void begin(Scene from) {
            trial.copyFrom(from);
        }

        void goOn(int n) {
            for (int i = 0; i < n; i++) {
                trial.goOneStep(pulls);
            }
        }

        int settles(Scene from) {
            begin(from);
            for (int n = 0; n <= FAR_ON; n++) {
                if (trial.unlikeStates() <= 1) {
                    return n;
                }
                trial.goOneStep(pulls);
            }
            return MISSING;
        }

        /** TELLS. */
        int toldOn(Scene from, int one, int n) {
            int told = 0;
            for (int state = 0; state < DIGITS; state++) {
                begin(from);
                trial.change(one, STATE_OF, state);
                goOn(n);
                for (int i = 0; i < from.count && i < MOST_MEN; i++) {
                    if (state == 0) {
                        way[i] = trial.state[i];
                    }
                    told |= way[i] == trial.state[i] ? 0 : 1 << i;
                }
            }
            return told;
        }

        /** ROOMED. */
        void findRooms(Scene from) {
            if (roomsFound) {
                return;
            }
            for (int i = 0; i < MOST_MEN; i++) {
                way[i] = i;
            }
            fewest = MOST_MEN + 1;
            boolean more = true;
            // 1 is the least there can be, and with all AWAY every way gives the same.
            for (int ways = 0; ways < ROOMED_WAYS && more && fewest > 1; ways++) {
                int unlike = unlikeByWay(from);
                if (unlike < fewest) {
                    fewest = unlike;
                    System.arraycopy(way, 0, whose, 0, MOST_MEN);
                }
                more = turnToNextWay(from.count);
            }
            roomsFound = true;
        }

        private int unlikeByWay(Scene from) {
            begin(from);
            for (int i = 0; i < from.count && i < MOST_MEN; i++) {
                int giver = way[i];
                if (from.has(giver)) {
                    trial.change(i, ROOM_OF, from.room[giver]);
                }
            }
            for (int i = 0; i < ROOMED_STEPS; i++) {
                trial.goOneStep(pulls);
            }
            return trial.unlikeStates();
        }

        /** Makes the way the next one in the order of rows, over the first n; false behind the last. */
        private boolean turnToNextWay(int n) {
            int last = n < MOST_MEN ? n - 1 : MOST_MEN - 1;
            int turned = last - 1;
            while (turned >= 0 && way[turned] > way[turned + 1]) {
                turned--;
            }
            if (turned < 0) {
                return false;
            }
            int greater = last;
            while (greater > turned + 1 && way[greater] < way[turned]) {
                greater--;
            }
            swap(turned, greater);
            int high = last;
            for (int low = turned + 1; low < high; low++) {
                swap(low, high);
                high--;
            }
            return true;
        }

        private void swap(int i, int j) {
            if (i >= 0 && i < MOST_MEN && j >= 0 && j < MOST_MEN) {
                int held = way[i];
                way[i] = way[j];
                way[j] = held;
            }
        }

        /** Those numbers, as bits, that what of one may be now by all of SEEN. */
        int fitting(Whole from, int one, int what) {
            int fit = 0;
            for (int n = 0; n < DIGITS; n++) {
                begin(from.scene);
                trial.change(one, what, n);
                fit |= showsAll(from.seen) ? 1 << n : 0;
            }
            return fit;
        }

        private boolean showsAll(Rows seen) {
            int left = seen.size;
            for (int n = 0; n <= NEAR_ON && left > 0; n++) {
                for (int i = 0; i < seen.size && i < MOST_ROWS; i++) {
                    if (seen.second[i] == n) {
                        int man = seen.first[i];
                        if (trial.has(man) && trial.state[man] != seen.third[i]) {
                            return false;
                        }
                        left--;
                    }
                }
                if (left > 0) {
                    trial.goOneStep(pulls);
                }
            }
            return true;
        }

        /** ODDS: of the STATES that one may be in now, how many bring the other into the told one. */
        int waysTo(Scene from, int one, int other, int state, int n) {
            int ways = 0;
            for (int first = 0; first < DIGITS; first++) {
                begin(from);
                trial.change(one, STATE_OF, first);
                goOn(n);
                ways += trial.has(other) && trial.state[other] == state ? 1 : 0;
            }
            return ways;
        }

        void goByPlan(Rows plan) {
            for (int i = 0; i < plan.size && i < MOST_ROWS; i++) {
                int n = plan.second[i];
                switch (plan.first[i]) {
                    case PLAN_STEP: trial.goOneStep(pulls); break;
                    case PLAN_AWAY: trial.send(n, true); break;
                    case PLAN_BACK: trial.send(n, false); break;
                    default: trial.change(n / 10, ROOM_OF, n % 10); break;
                }
            }
        }
    }

    /** What is told by hand, a row of up to three numbers at a time: SEEN, the PLAN, BOOK. */
    private static final class Rows {
        final int[] first = new int[MOST_ROWS];
        final int[] second = new int[MOST_ROWS];
        final int[] third = new int[MOST_ROWS];
        int size;

        /** How many there are then; FULL, if there are most already. */
        int add(int most, int a, int b, int c) {
            if (size < 0 || size >= most || size >= MOST_ROWS) {
                return FULL;
            }
            first[size] = a;
            second[size] = b;
            third[size] = c;
            size++;
            return size;
        }

        void copyFrom(Rows other) {
            System.arraycopy(other.first, 0, first, 0, MOST_ROWS);
            System.arraycopy(other.second, 0, second, 0, MOST_ROWS);
            System.arraycopy(other.third, 0, third, 0, MOST_ROWS);
            size = other.size;
        }
    }

    /** All that THE IMAGE holds. */
    private static final class Whole {
        final Scene scene = new Scene();
        final Tape tape = new Tape();
        final Rows seen = new Rows();
        final Rows plan = new Rows();
        final Rows book = new Rows();
        int houses;

        void copyFrom(Whole other) {
            scene.copyFrom(other.scene);
            tape.copyFrom(other.tape);
            seen.copyFrom(other.seen);
            plan.copyFrom(other.plan);
            book.copyFrom(other.book);
            houses = other.houses;
        }
    }

    /** An ACT of a FOOTMAN, with its TRACE. */
    private static final class Body {
        final int[] trace = new int[MOST_KEPT];
        int ran;
        int man;
        int kind;
        int number;

        /** Runs an act of the FOOTMAN; THE TRACE is of this one alone. */
        int begin(int act, int x) {
            return run(act, kind, x, 0);
        }

        /** Runs the body that the KIND from, or the next one above that has one, gives the act. */
        private int run(int act, int from, int x, int depth) {
            int owner = ownerOf(act, from);
            if (owner < 0 || depth > DEEPEST_BODY) {
                return 0;
            }
            int body = bodyOf(act, owner);
            note(body);
            return answer(body, kindAbove(owner), x, depth + 1);
        }

        /** What stands in a body; above is the KIND above the one that it is of. */
        private int answer(int body, int above, int x, int depth) {
            switch (body) {
                case 1: return x + man;
                case 2: return run(BOWS, kind, x, depth) - number;
                case 3: return run(SERVES, kind, x, depth) * 2;
                case 11: return run(BOWS, above, x * 3, depth);
                case 21: return -run(SERVES, above, x, depth);
                case 31: return run(WEEPS, above, x, depth) ^ 7;
                case 41: return run(WEEPS, above, x - 1, depth) + run(BOWS, kind, 2, depth);
                case 51: return run(BOWS, above, x, depth) ^ man;
                default: return run(SERVES, above, x, depth) + number;
            }
        }

        /** The KIND from which on there is a body for the act, -1 for none. */
        private static int ownerOf(int act, int from) {
            int at = from;
            for (int up = 0; up < KINDS && at >= 0; up++) {
                if (bodyOf(act, at) != 0) {
                    return at;
                }
                at = kindAbove(at);
            }
            return -1;
        }

        /** The body that a KIND has of its own for the act, 0 for none. */
        private static int bodyOf(int act, int owner) {
            int place = act * KINDS + owner;
            return place >= 0 && place < BODIES.length ? BODIES[place] : 0;
        }

        private void note(int body) {
            if (ran >= 0 && ran < trace.length) {
                trace[ran] = body;
            }
            ran++;
        }
    }
}
