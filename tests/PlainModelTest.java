import java.util.ArrayList;
import java.util.Arrays;
import java.util.List;
import java.util.regex.Pattern;

/**
 * Random runs of calls (by a sum of its own, so that they are always the same), each answer held against that of
 * a model that does what the document says in the slowest and plainest way: nothing is remembered or cut short.
 */
public final class PlainModelTest {
    private static final int RUNS = 260, CALLS = 512, LONGEST_TEXT = 104;

    public static void main(String[] args) {
        int wrong = 0;
        for (int run = 0; run < RUNS && wrong < 5; run++) {
            wrong += new Run(run).go();
        }
        for (int run = 0; run < 4000 && wrong < 5; run++) {
            wrong += new Run(1000000 + run).readTapes();
        }
        System.out.println(wrong == 0 ? "the plain model answers alike" : wrong + " runs differ from the plain model");
        if (wrong != 0) {
            System.exit(1);
        }
    }

    /** A row of numbers that look like chance. */
    static final class Chance {
        private long state;

        Chance(long seed) {
            state = seed * 7919 + 17;
            for (int i = 0; i < 5; i++) {
                below(10);
            }
        }

        int below(int n) {
            state = state * 6364136223846793005L + 1442695040888963407L;
            return (int) ((state >>> 33) % n);
        }

        boolean oneIn(int n) {
            return below(n) == 0;
        }

        <T> T of(List<T> list) {
            return list.get(below(list.size()));
        }
    }

    static final class Run {
        final Chance chance;
        final int seed;
        final FootmenMatch x = new FootmenMatch();
        final Model m = new Model();
        final List<String> history = new ArrayList<>();
        int dear;

        Run(int seed) {
            this.seed = seed;
            chance = new Chance(seed);
        }

        int go() {
            int men = chance.below(8);
            int early = chance.below(3);
            while (history.size() < CALLS) {
                boolean fresh = history.size() < 40;
                if (fresh && m.men.size() < men && chance.oneIn(2)) {
                    if (!man()) return 1;
                } else if (fresh && early == 1 && chance.oneIn(8)) {
                    if (!tape()) return 1;
                } else if (!any()) {
                    return 1;
                }
            }
            return 0;
        }

        /** Tapes alone, with pulls to show what a house that stands means. */
        int readTapes() {
            for (int i = 0; i < 3; i++) {
                if (!man()) return 1;
            }
            if (!tape()) return 1;
            for (int step = 0; step < 3; step++) {
                for (int i = 0; i < 3; i++) {
                    for (int j = 0; j < 3; j++) {
                        if (!same("pull", x.pull(i, j), m.pull(i, j), i, j)) return 1;
                    }
                    if (!same("of", x.of(i, 5), m.of(i, 5), i, 5)) return 1;
                }
                if (!same("told", x.told(1), m.told(1), 1)) return 1;
                if (!same("pass", x.pass(1), m.pass(1), 1)) return 1;
            }
            return 0;
        }

        boolean same(String call, long got, long want, long... args) {
            String told = call + Arrays.toString(args) + " answered " + got;
            history.add(told);
            if (got == want) {
                return true;
            }
            System.out.println("run " + seed + ", call " + history.size() + ": " + told + ", due is " + want);
            for (String line : history.subList(Math.max(0, history.size() - 60), history.size())) {
                System.out.println("    " + line);
            }
            System.out.println("    houses " + m.houses + ", men " + m.men.size() + ", step " + m.step);
            return false;
        }

        /** Mostly 0 .. most, at times just outside or far off. */
        int near(int most) {
            if (!chance.oneIn(12)) {
                return chance.below(most + 1);
            }
            return chance.of(List.of(-1, most + 1, -2, Integer.MIN_VALUE, Integer.MAX_VALUE, most + 7, -100));
        }

        int someMan() {
            return m.men.isEmpty() ? near(1) : near(m.men.size() - 1);
        }

        boolean man() {
            int kind = near(6), v = near(9), room = near(9), state = near(9);
            return same("man", x.man(kind, v, room, state), m.man(kind, v, room, state), kind, v, room, state);
        }

        boolean tape() {
            String text = new Texts(chance).house();
            for (int i = 0; i < text.length(); i++) {
                int sign = text.charAt(i);
                if (!same("feed", x.feed(sign), m.feed(sign), sign)) return false;
            }
            return same("house", x.house(), m.house());
        }

        boolean any() {
            int a = someMan(), b = someMan(), c = near(9);
            switch (chance.below(34)) {
                case 0: { int s = near(127); return same("feed", x.feed(s), m.feed(s), s); }
                case 1: return chance.oneIn(3) && history.size() + LONGEST_TEXT < CALLS ? tape() : same("house", x.house(), m.house());
                case 2: return man();
                case 3: case 4: { int w = near(6); return same("of", x.of(a, w), m.of(a, w), a, w); }
                case 5: return same("pull", x.pull(a, b), m.pull(a, b), a, b);
                case 6: { int k = near(3); return same("row", x.row(a, k, c), m.row(a, k, c), a, k, c); }
                case 7: { int w = near(1); return same("set", x.set(a, w, c), m.set(a, w, c), a, w, c); }
                case 8: {
                    boolean is = chance.oneIn(3);
                    return same("away", x.away(a, is), m.away(a, is), a, is ? 1 : 0);
                }
                case 9: { int w = near(4); return same("told", x.told(w), m.told(w), w); }
                case 10: { int n = near(60); return same("pass", x.pass(n), m.pass(n), n); }
                case 11: { int n = near(2); return same("pass", x.pass(n), m.pass(n), n); }
                case 12: case 13: {
                    int n = near(60), w = chance.oneIn(3) ? 0 : chance.oneIn(8) ? near(16) : 10 + (a < 1000000 ? a : 0);
                    return same("on", x.on(n, w), m.on(n, w), n, w);
                }
                case 14: return same("steer", x.steer(a, c), m.steer(a, c), a, c);
                case 15: { int n = near(20); return same("tells", x.tells(a, n), m.tells(a, n), a, n); }
                case 16: {
                    if (dear++ > 5) return true;
                    int k = near(6) - 1;
                    return same("roomed", x.roomed(k), m.roomed(k), k);
                }
                case 17: case 18: {
                    int n = chance.oneIn(3) ? near(20) : near(3), man = chance.oneIn(9) ? -1 : a;
                    int state = man >= 0 && man < m.men.size() && n >= 0 && n < 21 && !chance.oneIn(3)
                        ? m.ahead(m.now(), n).states[man] : c;
                    return same("see", x.see(man, n, state), m.see(man, n, state), man, n, state);
                }
                case 19: return same("states", x.states(a), m.states(a), a);
                case 20: return same("where", x.where(a), m.where(a), a);
                case 21: { int w = near(1); return same("firm", x.firm(a, w), m.firm(a, w), a, w); }
                case 22: {
                    int n = near(60), p = near(1), s = near(9);
                    return same("odds", x.odds(a, b, s, n, p), m.odds(a, b, s, n, p), a, b, s, n, p);
                }
                case 23: { int p = near(1); return same("mean", x.mean(p), m.mean(p), p); }
                case 24: case 25: {
                    int w = chance.oneIn(9) ? -1 : near(3);
                    int n = w == 3 ? (chance.oneIn(5) ? near(69) : chance.below(6) * 10 + chance.below(10)) : a;
                    return same("plan", x.plan(w, n), m.plan(w, n), w, n);
                }
                case 26: { int w = near(1); return same("done", x.done(w), m.done(w), w); }
                case 27: {
                    int man = chance.oneIn(9) ? -1 : a;
                    int s = man >= 0 && man < m.men.size() && !chance.oneIn(4) ? m.men.get(man).state : c;
                    return same("book", x.book(man, s), m.book(man, s), man, s);
                }
                case 28: return same("looked", x.looked(), m.looked());
                case 29: {
                    int act = near(2), n = near(1000) * (chance.oneIn(2) ? 1 : 1234567);
                    return same("act", x.act(a, act, n), m.act(a, act, n), a, act, n);
                }
                case 30: { int i = near(8); return same("trace", x.trace(i), m.trace(i), i); }
                case 31: { int k = near(6); return same("as", x.as(a, k), m.as(a, k), a, k); }
                case 32: {
                    if (!chance.oneIn(3)) return true & same("count", x.count(6), m.count(6), 6);
                    return chance.oneIn(2) ? same("image", x.image(), m.image()) : same("undo", x.undo(), m.undo());
                }
                default: { int w = near(6); return same("count", x.count(w), m.count(w), w); }
            }
        }
    }

    /** Texts of houses, most of them right, some with a sign or two gone wrong. */
    static final class Texts {
        final Chance chance;

        Texts(Chance chance) {
            this.chance = chance;
        }

        String house() {
            StringBuilder text = new StringBuilder();
            int clauses = 1 + chance.below(chance.oneIn(6) ? 12 : 4);
            for (int i = 0; i < clauses; i++) {
                text.append(i == 0 ? "" : ";").append(clause(clauses > 6));
            }
            for (int bad = chance.below(3) - 1; bad > 0 && text.length() > 0; bad -= chance.below(2)) {
                spoil(text);
            }
            return text.substring(0, Math.min(text.length(), LONGEST_TEXT));
        }

        void spoil(StringBuilder text) {
            int at = chance.below(text.length());
            char sign = "reachdsun 0123456789;|&!()pqkt<=>x".charAt(chance.below(34));
            switch (chance.below(4)) {
                case 0: text.setCharAt(at, sign); break;
                case 1: text.insert(at, sign); break;
                case 2: text.deleteCharAt(at); break;
                default: text.setLength(at); break;
            }
            if (text.length() == 0) {
                text.append('r');
            }
        }

        String clause(boolean small) {
            if (small || chance.oneIn(4)) {
                return "reach " + chance.below(chance.oneIn(4) ? 100 : 10);
            }
            return (chance.oneIn(2) ? "heed " : "shun ") + chance.below(chance.oneIn(4) ? 100 : 13) + " " + either(3);
        }

        String either(int deep) {
            return chance.oneIn(3) ? both(deep) + "|" + either(deep) : both(deep);
        }

        String both(int deep) {
            return chance.oneIn(3) ? one(deep) + "&" + both(deep) : one(deep);
        }

        String one(int deep) {
            if (chance.oneIn(40)) {
                return deep();
            }
            if (deep > 0 && chance.oneIn(4)) {
                return chance.oneIn(2) ? "!" + one(deep - 1) : "(" + either(deep - 1) + ")";
            }
            return test();
        }

        /** About as many of ! and ( as may be open. */
        String deep() {
            StringBuilder text = new StringBuilder();
            int brackets = 0;
            for (int open = 3 + chance.below(4); open > 0; open--) {
                boolean bracket = chance.oneIn(2);
                text.append(bracket ? '(' : '!');
                brackets += bracket ? 1 : 0;
            }
            return text.append(test()).append(")".repeat(brackets)).toString();
        }

        String test() {
            char letter = "pqksdt".charAt(chance.below(6));
            int n = chance.below(chance.oneIn(9) ? 100 : letter == 'p' || letter == 'q' || letter == 'k' ? 7 : 10);
            return "" + letter + "<=>".charAt(chance.below(3)) + n;
        }
    }

    static final class Man {
        int kind, v, room, state;
        boolean away;
        int[] row = new int[4];

        Man copy() {
            Man man = new Man();
            man.kind = kind;
            man.v = v;
            man.room = room;
            man.state = state;
            man.away = away;
            man.row = row.clone();
            return man;
        }
    }

    interface Clause {
        boolean holds(int p, int q, int k, int s, int d, int t);
    }

    /** How all is at one step, for the model's asks. */
    static final class Still {
        int[] kinds, vs, rooms, states;
        boolean[] away;
        int[][] rows;
        int step;

        Still copy() {
            Still still = new Still();
            still.kinds = kinds.clone();
            still.vs = vs.clone();
            still.rooms = rooms.clone();
            still.states = states.clone();
            still.away = away.clone();
            still.rows = rows;
            still.step = step;
            return still;
        }
    }

    static final class Model {
        List<Man> men = new ArrayList<>();
        List<String> houses = new ArrayList<>();
        String tape = "";
        int step;
        List<int[]> seen = new ArrayList<>(), plan = new ArrayList<>(), book = new ArrayList<>();
        List<Integer> trace = new ArrayList<>();
        Model image;
        String parsed = "";
        int reach = 9;
        List<Clause> clauses = new ArrayList<>();
        List<Integer> weights = new ArrayList<>();

        int feed(int sign) {
            if (sign < 0 || sign > 127) return -2;
            if (tape.length() == 100) return -4;
            tape += (char) sign;
            return tape.length();
        }

        int house() {
            if (houses.size() == 5) return -4;
            String text = tape;
            tape = "";
            if (Grammar.isHouse(text)) {
                houses.add(text);
                return houses.size() - 1;
            }
            return -10 - Grammar.fault(text);
        }

        int man(int kind, int v, int room, int state) {
            if (kind < 0 || kind > 6 || no(room) || no(state)) return -1;
            if (no(v)) return -2;
            if (men.size() == 6) return -4;
            Man man = new Man();
            man.kind = kind;
            man.v = v;
            man.room = room;
            man.state = state;
            men.add(man);
            return men.size() - 1;
        }

        boolean no(int digit) {
            return digit < 0 || digit > 9;
        }

        boolean none(int man) {
            return man < 0 || man >= men.size();
        }

        int of(int man, int what) {
            if (none(man) || what < 0 || what > 6) return -1;
            Man one = men.get(man);
            Still now = now();
            int leader = leader(now, man);
            return new int[] {one.kind, one.v, one.room, one.state, one.away ? 1 : 0, leader, next(now, man)}[what];
        }

        int pull(int man, int other) {
            return none(man) || none(other) || man == other ? -999999 : pull(now(), man, other);
        }

        int row(int man, int k, int n) {
            if (none(man) || k < 0 || k > 3) return -1;
            if (no(n)) return -2;
            if (men.get(man).kind != 6) return -3;
            int was = men.get(man).row[k];
            men.get(man).row[k] = n;
            return was;
        }

        int set(int man, int what, int n) {
            if (none(man) || what < 0 || what > 1 || no(n)) return -1;
            Man one = men.get(man);
            int was = what == 0 ? one.room : one.state;
            if (what == 0) one.room = n;
            else one.state = n;
            return was;
        }

        int away(int man, boolean is) {
            if (none(man)) return -1;
            boolean was = men.get(man).away;
            men.get(man).away = is;
            return was ? 1 : 0;
        }

        int told(int what) {
            switch (what) {
                case 0: return step;
                case 1: return reach();
                case 2: return unlike(now());
                case 3: {
                    Still still = now();
                    for (int n = 0; n <= 60; n++) {
                        if (unlike(still) <= 1) return n;
                        still = ahead(still, 1);
                    }
                    return -5;
                }
                case 4: {
                    int bits = 0;
                    for (int i = 0; i < men.size(); i++) {
                        if (men.get(i).away) bits += 1 << i;
                    }
                    return bits;
                }
                default: return -1;
            }
        }

        int pass(int n) {
            if (n < 0 || n > 60) return -2;
            if (step + n > 9999) return -3;
            Still then = ahead(now(), n);
            for (int i = 0; i < men.size(); i++) {
                men.get(i).state = then.states[i];
            }
            step += n;
            return step;
        }

        int on(int n, int what) {
            if (what != 0 && (what < 10 || none(what - 10))) return -1;
            if (n < 0 || n > 60) return -2;
            Still then = ahead(now(), n);
            return what == 0 ? unlike(then) : then.states[what - 10];
        }

        int soonest(Still from, int man, int state) {
            Still still = from;
            for (int n = 0; n <= 20; n++) {
                if (still.states[man] == state) return n;
                still = ahead(still, 1);
            }
            return 1000;
        }

        int steer(int man, int state) {
            if (none(man) || no(state)) return -1;
            int asIs = soonest(now(), man, state);
            int best = -5;
            int least = asIs;
            for (int one = 0; one < men.size(); one++) {
                for (int s = 0; s < 10 && !men.get(one).away; s++) {
                    Still still = now();
                    still.states[one] = s;
                    int n = soonest(still, man, state);
                    if (n < least) {
                        least = n;
                        best = 10 * one + s;
                    }
                }
            }
            return best;
        }

        int tells(int man, int n) {
            if (none(man)) return -1;
            if (n < 0 || n > 20) return -2;
            int bits = 0;
            for (int other = 0; other < men.size(); other++) {
                boolean same = true;
                int first = -1;
                for (int s = 0; s < 10; s++) {
                    Still still = now();
                    still.states[man] = s;
                    int then = ahead(still, n).states[other];
                    if (s == 0) first = then;
                    same &= first == then;
                }
                if (!same) bits |= 1 << other;
            }
            return bits;
        }

        int roomed(int k) {
            if (k < -1 || k > 5) return -1;
            int[] best = null;
            int least = 1000;
            for (int[] way : ways(new int[0], men.size())) {
                Still still = now();
                for (int i = 0; i < way.length; i++) {
                    still.rooms[i] = men.get(way[i]).room;
                }
                int unlike = unlike(ahead(still, 3));
                if (unlike < least) {
                    least = unlike;
                    best = way;
                }
            }
            return k < 0 ? least : k < men.size() ? best[k] : -5;
        }

        List<int[]> ways(int[] head, int n) {
            List<int[]> all = new ArrayList<>();
            if (head.length == n) {
                all.add(head);
                return all;
            }
            for (int i = 0; i < n; i++) {
                boolean used = false;
                for (int h : head) {
                    used |= h == i;
                }
                if (!used) {
                    int[] longer = Arrays.copyOf(head, head.length + 1);
                    longer[head.length] = i;
                    all.addAll(ways(longer, n));
                }
            }
            return all;
        }

        int see(int man, int n, int state) {
            if (man == -1) {
                seen.clear();
                return 0;
            }
            if (none(man) || no(state)) return -1;
            if (n < 0 || n > 20) return -2;
            if (seen.size() == 6) return -4;
            seen.add(new int[] {man, n, state});
            return seen.size();
        }

        boolean allSeen(Still still) {
            for (int[] row : seen) {
                if (ahead(still, row[1]).states[row[0]] != row[2]) return false;
            }
            return true;
        }

        int states(int man) {
            if (none(man)) return -1;
            int bits = 0;
            for (int s = 0; s < 10; s++) {
                Still still = now();
                still.states[man] = s;
                if (allSeen(still)) bits |= 1 << s;
            }
            return bits;
        }

        int where(int man) {
            if (none(man)) return -1;
            int bits = 0;
            for (int r = 0; r < 10; r++) {
                Still still = now();
                still.rooms[man] = r;
                if (allSeen(still)) bits |= 1 << r;
            }
            return bits;
        }

        int firm(int man, int what) {
            if (none(man) || what < 0 || what > 1) return -1;
            int many = 0;
            int least = -5;
            for (int v = 9; v >= 0; v--) {
                Still still = now();
                still.vs[man] = v;
                if (allSeen(still)) {
                    many++;
                    least = v;
                }
            }
            return what == 0 ? many : least;
        }

        long odds(int man, int other, int state, int n, int part) {
            if (none(man) || none(other) || no(state) || n < 0 || n > 60 || part < 0 || part > 1) return Long.MIN_VALUE;
            int many = 0;
            for (int s = 0; s < 10; s++) {
                Still still = now();
                still.states[man] = s;
                if (ahead(still, n).states[other] == state) many++;
            }
            return lowest(many, 10, part);
        }

        long mean(int part) {
            int sum = 0, many = 0;
            for (Man man : men) {
                if (!man.away) {
                    sum += man.state;
                    many++;
                }
            }
            return many == 0 || part < 0 || part > 1 ? Long.MIN_VALUE : lowest(sum, many, part);
        }

        long lowest(int above, int below, int part) {
            int by = java.math.BigInteger.valueOf(above).gcd(java.math.BigInteger.valueOf(below)).intValue();
            return (part == 0 ? above : below) / by;
        }

        int plan(int what, int n) {
            if (what == -1) {
                plan.clear();
                return 0;
            }
            if (what < 0 || what > 3) return -1;
            if ((what == 1 || what == 2) && none(n)) return -1;
            if (what == 3 && (n < 0 || none(n / 10))) return -1;
            if (plan.size() == 8) return -4;
            plan.add(new int[] {what, n});
            return plan.size();
        }

        int done(int what) {
            if (what < 0 || what > 1) return -1;
            Still still = now();
            for (int[] row : plan) {
                if (row[0] == 0) still = ahead(still, 1);
                if (row[0] == 1) still.away[row[1]] = true;
                if (row[0] == 2) still.away[row[1]] = false;
                if (row[0] == 3) still.rooms[row[1] / 10] = row[1] % 10;
            }
            return what == 0 ? unlike(still) : Arrays.stream(still.states).sum();
        }

        int book(int man, int state) {
            if (man == -1) {
                book.clear();
                return 0;
            }
            if (none(man) || no(state)) return -1;
            if (book.size() == 8) return -4;
            book.add(new int[] {man, state});
            return book.size();
        }

        int looked() {
            for (int i = 0; i < book.size(); i++) {
                if (men.get(book.get(i)[0]).state != book.get(i)[1]) return i;
            }
            return -5;
        }

        int act(int man, int act, int x) {
            trace.clear();
            if (none(man) || act < 0 || act > 2) return 0;
            Acts acts = Acts.of(men.get(man), man, trace);
            return act == 0 ? acts.bows(x) : act == 1 ? acts.serves(x) : acts.weeps(x);
        }

        int trace(int i) {
            return i < 0 || i >= Math.min(20, trace.size()) ? -1 : trace.get(i);
        }

        int as(int man, int k) {
            if (none(man) || k < 0 || k > 6) return -1;
            int kind = men.get(man).kind;
            Class<?>[] kinds = {Acts.class, Pious.class, Lent.class, Stout.class, Beadle.class, Far.class, Told.class};
            return kinds[k].isAssignableFrom(kinds[kind]) ? men.get(man).v : -6;
        }

        Model copy() {
            Model copy = new Model();
            for (Man man : men) {
                copy.men.add(man.copy());
            }
            copy.houses.addAll(houses);
            copy.tape = tape;
            copy.step = step;
            copy.seen.addAll(seen);
            copy.plan.addAll(plan);
            copy.book.addAll(book);
            return copy;
        }

        int image() {
            image = copy();
            return men.size();
        }

        int undo() {
            if (image == null) return -3;
            Model back = image.copy();
            men = back.men;
            houses = back.houses;
            tape = back.tape;
            step = back.step;
            seen = back.seen;
            plan = back.plan;
            book = back.book;
            return men.size();
        }

        int count(int what) {
            switch (what) {
                case 0: return men.size();
                case 1: return houses.size();
                case 2: return seen.size();
                case 3: return plan.size();
                case 4: return book.size();
                case 5: return tape.length();
                case 6: return trace.size();
                default: return -1;
            }
        }

        // ---- how it goes on

        String holding() {
            return houses.isEmpty() ? "" : houses.get(houses.size() - 1);
        }

        int reach() {
            parse();
            return reach;
        }

        void parse() {
            if (parsed.equals(holding())) return;
            parsed = holding();
            reach = 9;
            clauses.clear();
            weights.clear();
            for (String clause : parsed.split(";")) {
                String[] parts = clause.split(" ");
                if (parts[0].equals("reach")) reach = Integer.parseInt(parts[1]);
                if (parts.length == 3) {
                    clauses.add(Grammar.meaning(parts[2]));
                    weights.add(Integer.parseInt(parts[1]) * (parts[0].equals("heed") ? 1 : -1));
                }
            }
        }

        Still now() {
            int n = men.size();
            Still still = new Still();
            still.kinds = new int[n];
            still.vs = new int[n];
            still.rooms = new int[n];
            still.states = new int[n];
            still.away = new boolean[n];
            still.rows = new int[n][];
            still.step = step;
            for (int i = 0; i < n; i++) {
                Man man = men.get(i);
                still.kinds[i] = man.kind;
                still.vs[i] = man.v;
                still.rooms[i] = man.room;
                still.states[i] = man.state;
                still.away[i] = man.away;
                still.rows[i] = man.row;
            }
            return still;
        }

        int pull(Still still, int i, int j) {
            parse();
            int apart = Math.abs(still.rooms[i] - still.rooms[j]);
            int pull = 10 - apart;
            for (int c = 0; c < clauses.size(); c++) {
                if (clauses.get(c).holds(i, j, still.kinds[i], still.states[j], apart, still.step % 10)) {
                    pull += weights.get(c);
                }
            }
            return pull;
        }

        int leader(Still still, int i) {
            int best = -5;
            int most = 1;
            for (int j = still.states.length - 1; j >= 0 && !still.away[i]; j--) {
                boolean able = j != i && !still.away[j] && Math.abs(still.rooms[i] - still.rooms[j]) <= reach();
                int pull = able ? pull(still, i, j) : 0;
                if (pull >= most) {
                    best = j;
                    most = pull;
                }
            }
            return best;
        }

        int next(Still still, int i) {
            int leader = leader(still, i);
            int own = still.states[i];
            if (leader < 0) return own;
            int his = still.states[leader];
            int lent = still.step % 2 == 0 ? his : own;
            int pious = Math.max(his, own);
            int stout = (his + own) / 2;
            int kind = still.kinds[i];
            if (kind == 0) return his;
            if (kind == 1) return pious;
            if (kind == 2) return lent;
            if (kind == 3) return stout;
            if (kind == 4) return still.step % 5 == 0 ? Math.min(9, pious + 1) : pious;
            if (kind == 5) return Math.abs(still.rooms[i] - still.rooms[leader]) > still.vs[i] ? own : lent;
            return (stout + still.rows[i][still.step % 4]) % 10;
        }

        Still ahead(Still from, int n) {
            Still still = from.copy();
            for (int k = 0; k < n; k++) {
                Still then = still.copy();
                for (int i = 0; i < still.states.length; i++) {
                    then.states[i] = next(still, i);
                }
                then.step++;
                still = then;
            }
            return still;
        }

        int unlike(Still still) {
            List<Integer> met = new ArrayList<>();
            for (int i = 0; i < still.states.length; i++) {
                if (!still.away[i] && !met.contains(still.states[i])) met.add(still.states[i]);
            }
            return met.size();
        }
    }

    /** The acts as Java itself would have them: MAN's, and the kinds under it. */
    static class Acts {
        Man man;
        int i;
        List<Integer> trace;

        static Acts of(Man man, int i, List<Integer> trace) {
            Acts[] all = {new Acts(), new Pious(), new Lent(), new Stout(), new Beadle(), new Far(), new Told()};
            Acts acts = all[man.kind];
            acts.man = man;
            acts.i = i;
            acts.trace = trace;
            return acts;
        }

        int bows(int x) {
            trace.add(1);
            return x + i;
        }

        int serves(int x) {
            trace.add(2);
            return bows(x) - man.v;
        }

        int weeps(int x) {
            trace.add(3);
            return serves(x) * 2;
        }
    }

    static class Pious extends Acts {
        int bows(int x) {
            trace.add(11);
            return super.bows(x * 3);
        }
    }

    static class Lent extends Acts {
        int serves(int x) {
            trace.add(21);
            return -super.serves(x);
        }
    }

    static class Stout extends Acts {
        int weeps(int x) {
            trace.add(31);
            return super.weeps(x) ^ 7;
        }
    }

    static class Beadle extends Pious {
        int weeps(int x) {
            trace.add(41);
            return super.weeps(x - 1) + bows(2);
        }
    }

    static class Far extends Lent {
        int bows(int x) {
            trace.add(51);
            return super.bows(x) ^ i;
        }
    }

    static class Told extends Stout {
        int serves(int x) {
            trace.add(61);
            return super.serves(x) + man.v;
        }
    }

    /** A house is judged whole, by splitting it; a FAULT is found by trying all that could still come. */
    static final class Grammar {
        static final String NUMBER = "(0|[1-9][0-9]?)";
        static final Pattern REACH = Pattern.compile("reach " + NUMBER);
        static final Pattern WEIGHED = Pattern.compile("(?s)(heed|shun) " + NUMBER + " .*");
        static final Pattern TEST = Pattern.compile("[pqksdt][<=>]" + NUMBER);

        static boolean isHouse(String text) {
            String[] clauses = text.split(";", -1);
            if (clauses.length > 10) return false;
            for (String clause : clauses) {
                boolean reach = REACH.matcher(clause).matches();
                boolean weighed = WEIGHED.matcher(clause).matches()
                    && isEither(clause.substring(clause.indexOf(' ', 5) + 1), 0);
                if (!reach && !weighed) return false;
            }
            return true;
        }

        static List<String> split(String text, char by) {
            List<String> parts = new ArrayList<>();
            int open = 0;
            StringBuilder part = new StringBuilder();
            for (char c : text.toCharArray()) {
                if (c == '(') open++;
                if (c == ')') open--;
                if (c == by && open == 0) {
                    parts.add(part.toString());
                    part.setLength(0);
                } else {
                    part.append(c);
                }
            }
            parts.add(part.toString());
            return parts;
        }

        static boolean isEither(String text, int open) {
            for (String both : split(text, '|')) {
                for (String one : split(both, '&')) {
                    if (!isOne(one, open)) return false;
                }
            }
            return true;
        }

        static boolean isOne(String text, int open) {
            if (text.startsWith("!")) return open < 5 && isOne(text.substring(1), open + 1);
            if (text.startsWith("(")) {
                return open < 5 && text.endsWith(")") && isEither(text.substring(1, text.length() - 1), open + 1);
            }
            return TEST.matcher(text).matches();
        }

        static Clause meaning(String text) {
            List<String> parts = split(text, '|');
            if (parts.size() > 1) {
                Clause first = meaning(parts.get(0)), rest = meaning(String.join("|", parts.subList(1, parts.size())));
                return (p, q, k, s, d, t) -> first.holds(p, q, k, s, d, t) || rest.holds(p, q, k, s, d, t);
            }
            parts = split(text, '&');
            if (parts.size() > 1) {
                Clause first = meaning(parts.get(0)), rest = meaning(String.join("&", parts.subList(1, parts.size())));
                return (p, q, k, s, d, t) -> first.holds(p, q, k, s, d, t) && rest.holds(p, q, k, s, d, t);
            }
            if (text.startsWith("!")) {
                Clause inner = meaning(text.substring(1));
                return (p, q, k, s, d, t) -> !inner.holds(p, q, k, s, d, t);
            }
            if (text.startsWith("(")) return meaning(text.substring(1, text.length() - 1));
            int n = Integer.parseInt(text.substring(2));
            char letter = text.charAt(0), sign = text.charAt(1);
            return (p, q, k, s, d, t) -> {
                int value = letter == 'p' ? p : letter == 'q' ? q : letter == 'k' ? k : letter == 's' ? s
                    : letter == 'd' ? d : t;
                return sign == '<' ? value < n : sign == '>' ? value > n : value == n;
            };
        }

        static final List<String> ENDS = ends();

        static List<String> ends() {
            List<String> ends = new ArrayList<>(List.of(""));
            for (String whole : List.of("reach 1", "heed 1 p=1", "shun 1 p=1")) {
                for (int i = 0; i < whole.length(); i++) {
                    for (int close = 0; close < 6; close++) {
                        ends.add(whole.substring(i) + ")".repeat(close));
                    }
                }
            }
            for (int close = 1; close < 6; close++) {
                ends.add(")".repeat(close));
            }
            return ends;
        }

        static boolean canGoOn(String head) {
            for (String end : ENDS) {
                if (isHouse(head + end)) return true;
            }
            return false;
        }

        static int fault(String text) {
            for (int i = 0; i < text.length(); i++) {
                if (!canGoOn(text.substring(0, i + 1))) return i;
            }
            return text.length();
        }
    }
}
