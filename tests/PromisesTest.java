/** Each promise of the document by hand: ordinary inputs, the edges that it names, and wrong inputs. */
public final class PromisesTest {
    private static final int LOW = Integer.MIN_VALUE, HIGH = Integer.MAX_VALUE;
    private static final long NO = Long.MIN_VALUE;
    private static int wrong;
    private static int promise;

    public static void main(String[] args) {
        newObject();
        feed();
        house();
        houseLimits();
        tests();
        man();
        of();
        nextByKind();
        leader();
        pull();
        row();
        set();
        away();
        told();
        pass();
        on();
        steer();
        tells();
        roomed();
        see();
        states();
        where();
        firm();
        odds();
        mean();
        plan();
        done();
        book();
        looked();
        act();
        trace();
        as();
        image();
        undo();
        count();
        System.out.println(wrong == 0 ? "all promises hold" : wrong + " answers are not as promised");
        if (wrong != 0) {
            System.exit(1);
        }
    }

    private static void due(String call, long got, long want) {
        if (got != want) {
            wrong++;
            System.out.println("promise " + promise + ": " + call + " answered " + got + ", due is " + want);
        }
    }

    private static FootmenMatch begin(int number) {
        promise = number;
        return new FootmenMatch();
    }

    private static int read(FootmenMatch x, String text) {
        for (int i = 0; i < text.length(); i++) {
            due("feed of " + text, x.feed(text.charAt(i)), i + 1);
        }
        return x.house();
    }

    private static void reads(FootmenMatch x, String text, int want) {
        due("house() by " + text, read(x, text), want);
    }

    /** The FAULT of a text that is no house: where the place is told by what stands ahead of it. */
    private static void faultBehind(String good, String rest) {
        FootmenMatch x = new FootmenMatch();
        due("house() by " + good + "_" + rest, read(x, good + rest), -10 - good.length());
        due("count(5)", x.count(5), 0);
        due("count(1)", x.count(1), 0);
    }

    private static void men(FootmenMatch x, int[]... rows) {
        for (int[] row : rows) {
            due("man()", x.man(row[0], row[1], row[2], row[3]), x.count(0) - 1);
        }
    }

    private static int[] one(int kind, int v, int room, int state) {
        return new int[] {kind, v, room, state};
    }

    private static void newObject() {
        FootmenMatch x = begin(1);
        for (int what = 0; what < 7; what++) {
            due("count(" + what + ")", x.count(what), 0);
        }
        due("told(0)", x.told(0), 0);
        due("told(1)", x.told(1), 9);
        due("told(2)", x.told(2), 0);
        due("told(3)", x.told(3), 0);
        due("told(4)", x.told(4), 0);
        due("undo()", x.undo(), -3);
        due("looked()", x.looked(), -5);
        due("roomed(-1)", x.roomed(-1), 0);
        due("roomed(0)", x.roomed(0), -5);
        due("mean(0)", x.mean(0), NO);
        due("pass(60)", x.pass(60), 60);
        due("constant NO", FootmenMatch.NO, NO);
        due("constant NONE", FootmenMatch.NONE, -1);
        due("constant BAD", FootmenMatch.BAD, -2);
        due("constant STATE", FootmenMatch.STATE, -3);
        due("constant FULL", FootmenMatch.FULL, -4);
    }

    private static void feed() {
        FootmenMatch x = begin(2);
        due("feed(-1)", x.feed(-1), -2);
        due("feed(128)", x.feed(128), -2);
        due("feed(LOW)", x.feed(LOW), -2);
        due("feed(HIGH)", x.feed(HIGH), -2);
        due("feed(0)", x.feed(0), 1);
        due("feed(127)", x.feed(127), 2);
        for (int i = 3; i <= 100; i++) {
            due("feed(65)", x.feed(65), i);
        }
        due("feed(65), full", x.feed(65), -4);
        due("feed(128), full", x.feed(128), -2);
        due("count(5)", x.count(5), 100);
        due("house()", x.house(), -10);
        due("feed(65), anew", x.feed(65), 1);
    }

    private static void house() {
        FootmenMatch x = begin(3);
        due("house(), empty", x.house(), -10);
        reads(x, "reach 3", 0);
        due("told(1)", x.told(1), 3);
        reads(x, "reach 4;x", -18);
        due("told(1), the one that held holds", x.told(1), 3);
        reads(x, "heed 1 p=0;reach 12;shun 2 p=0;reach 0", 1);
        due("told(1), the last", x.told(1), 0);
        reads(x, "shun 3 p=1", 2);
        due("told(1), no reach", x.told(1), 9);
        reads(x, "reach 99", 3);
        due("told(1)", x.told(1), 99);
        reads(x, "reach 1", 4);
        due("feed", x.feed('x'), 1);
        due("house(), full", x.house(), -4);
        due("count(5), the tape stays", x.count(5), 1);
        due("count(1)", x.count(1), 5);
        due("told(1)", x.told(1), 1);

        faultBehind("", "Reach 1");
        faultBehind("", " reach 1");
        faultBehind("", ";reach 1");
        faultBehind("r", "");
        faultBehind("r", "aech 1");
        faultBehind("reach", "");
        faultBehind("reach", "1");
        faultBehind("reach ", " 1");
        faultBehind("reach ", "");
        faultBehind("reach ", "x");
        faultBehind("reach 0", "1");
        faultBehind("reach 10", "0");
        faultBehind("reach 1", " ");
        faultBehind("reach 1", " p=1");
        faultBehind("reach 1;", "");
        faultBehind("reach 1;", " reach 1");
        faultBehind("reach 1;reach 1;", ";");
        faultBehind("he", "ad 1 p=1");
        faultBehind("heed 1", "");
        faultBehind("heed 1", ";");
        faultBehind("heed 1 ", "");
        faultBehind("heed 1 ", " p=1");
        faultBehind("heed 1 ", ")");
        faultBehind("heed 1 ", "x=1");
        faultBehind("heed 1 p", "");
        faultBehind("heed 1 p", " =1");
        faultBehind("heed 1 p", "!");
        faultBehind("heed 1 p=", "");
        faultBehind("heed 1 p=", "=1");
        faultBehind("heed 1 p<", "=1");
        faultBehind("heed 1 p=0", "0");
        faultBehind("heed 1 p=99", "9");
        faultBehind("heed 1 p=1", " ");
        faultBehind("heed 1 p=1", ")");
        faultBehind("heed 1 p=1", "!");
        faultBehind("heed 1 p=1&", "");
        faultBehind("heed 1 p=1&", "&");
        faultBehind("heed 1 p=1|", "|");
        faultBehind("heed 1 p=1|", ";");
        faultBehind("heed 1 (", ")");
        faultBehind("heed 1 (p=1", "");
        faultBehind("heed 1 (p=1", ";");
        faultBehind("heed 1 (p=1)", "(");
        faultBehind("heed 1 !", "");
        faultBehind("shun 1 !", "&");
        faultBehind("shu", "m 1 p=1");
    }

    private static void houseLimits() {
        FootmenMatch x = begin(3);
        String nine = "reach 1;reach 1;reach 1;reach 1;reach 1;reach 1;reach 1;reach 1;reach 1;";
        reads(x, nine + "reach 2", 0);
        due("told(1)", x.told(1), 2);
        faultBehind(nine + "reach 2", ";");
        faultBehind(nine + "reach 2", ";reach 3");
        reads(x, "heed 1 (((((p=1)))))&!!!!!p=2|!(!(!p=1))&((p=1))", 1);
        reads(x, "heed 1 !(!p=1|!!!p=1&!(!q=1))", 2);
        faultBehind("heed 1 !!!!!", "!p=1");
        faultBehind("heed 1 (((((", "(p=1))))))");
        faultBehind("heed 1 (!(!(", "!p=1)))");
        faultBehind("heed 1 !!!!!", "(p=1)");
        faultBehind("heed 1 (p=1)|!(!(!p=1&", "");
        faultBehind("heed 1 !!!!!p=1&(((((p=1)))))&(!!!!p=1&!!!!", "!p=1)");
    }

    /** What a TEST asks, of one (who is pulled) and another one. */
    private static void tests() {
        FootmenMatch x = begin(3);
        men(x, one(0, 0, 0, 4), one(5, 0, 0, 7), one(2, 0, 3, 1));
        reads(x, "heed 10 p=1;heed 20 q=1", 0);
        due("pull(1, 0)", x.pull(1, 0), 20);
        due("pull(0, 1)", x.pull(0, 1), 30);
        reads(x, "heed 10 k=5;heed 20 s=7;heed 40 d=3;heed 80 d>2&s<2", 1);
        due("pull(1, 0)", x.pull(1, 0), 20);
        due("pull(0, 1)", x.pull(0, 1), 30);
        due("pull(0, 2)", x.pull(0, 2), 7 + 40 + 80);
        due("pull(2, 0)", x.pull(2, 0), 7 + 40);
        reads(x, "heed 10 t=3;shun 50 t=0;heed 1 t<10;heed 2 t>10;heed 4 t=13", 2);
        due("pull(0, 1)", x.pull(0, 1), 10 - 50 + 1);
        due("pass(13)", x.pass(13), 13);
        due("pull(0, 1), STEP 13", x.pull(0, 1), 10 + 10 + 1);
        reads(x, "heed 1 p=0|q=0&k=9;heed 2 !p=0|q=0;heed 4 !(p=0|q=0);heed 8 (p=0|q=0)&k=0;heed 16 !!p=0", 3);
        due("pull(0, 1)", x.pull(0, 1), 10 + 1 + 8 + 16);
        due("pull(1, 0)", x.pull(1, 0), 10 + 2);
        due("pull(1, 2)", x.pull(1, 2), 7 + 2 + 4);
        x = begin(3);
        men(x, one(0, 0, 0, 4), one(5, 0, 0, 7), one(2, 0, 3, 1));
        reads(x, "heed 99 p<6;heed 99 p<6;shun 9 k=0&s<5|k=5&s>3&!d>0|k=0&d=0", 0);
        due("pull(0, 1)", x.pull(0, 1), 10 + 198 - 9);
        due("pull(0, 2)", x.pull(0, 2), 7 + 198 - 9);
        due("pull(1, 0)", x.pull(1, 0), 10 + 198 - 9);
        due("pull(1, 2)", x.pull(1, 2), 7 + 198);
    }

    private static void man() {
        FootmenMatch x = begin(4);
        for (int bad : new int[] {-1, 7, LOW, HIGH}) {
            due("man(" + bad + ", 0, 0, 0)", x.man(bad, 0, 0, 0), -1);
        }
        for (int bad : new int[] {-1, 10, LOW, HIGH}) {
            due("man(0, " + bad + ", 0, 0)", x.man(0, bad, 0, 0), -2);
            due("man(0, 0, " + bad + ", 0)", x.man(0, 0, bad, 0), -1);
            due("man(0, 0, 0, " + bad + ")", x.man(0, 0, 0, bad), -1);
            due("man(7, " + bad + ", 0, 0)", x.man(7, bad, 0, 0), -1);
            due("man(0, 10, 0, " + bad + ")", x.man(0, 10, 0, bad), -1);
        }
        due("count(0)", x.count(0), 0);
        men(x, one(0, 0, 0, 0), one(6, 9, 9, 9), one(1, 1, 2, 3), one(2, 0, 2, 0), one(3, 0, 2, 0), one(4, 0, 2, 0));
        due("man(), full", x.man(0, 0, 0, 0), -4);
        due("man(), NONE ahead of FULL", x.man(7, 0, 0, 0), -1);
        due("man(), BAD ahead of FULL", x.man(0, 10, 0, 0), -2);
        due("count(0)", x.count(0), 6);
        int[] second = {6, 9, 9, 9, 0};
        for (int what = 0; what < second.length; what++) {
            due("of(1, " + what + ")", x.of(1, what), second[what]);
        }
    }

    private static void of() {
        FootmenMatch x = begin(5);
        due("of(0, 0)", x.of(0, 0), -1);
        men(x, one(4, 7, 3, 2));
        due("of(0, 0)", x.of(0, 0), 4);
        due("of(0, 1)", x.of(0, 1), 7);
        due("of(0, 2)", x.of(0, 2), 3);
        due("of(0, 3)", x.of(0, 3), 2);
        due("of(0, 4)", x.of(0, 4), 0);
        due("of(0, 5), alone", x.of(0, 5), -5);
        due("of(0, 6), alone", x.of(0, 6), 2);
        men(x, one(0, 0, 3, 8));
        due("of(0, 5)", x.of(0, 5), 1);
        due("of(0, 6)", x.of(0, 6), 9);
        x.away(0, true);
        due("of(0, 4)", x.of(0, 4), 1);
        due("of(0, 5), AWAY", x.of(0, 5), -5);
        due("of(0, 6), AWAY", x.of(0, 6), 2);
        due("of(1, 5), the other AWAY", x.of(1, 5), -5);
        for (int bad : new int[] {-1, 2, LOW, HIGH}) {
            due("of(" + bad + ", 0)", x.of(bad, 0), -1);
        }
        for (int bad : new int[] {-1, 7, LOW, HIGH}) {
            due("of(0, " + bad + ")", x.of(0, bad), -1);
        }
    }

    /** NEXT of each KIND, beside a LEADER in a STATE. */
    private static int next(int kind, int v, int own, int his, int apart, int step) {
        FootmenMatch x = new FootmenMatch();
        men(x, one(kind, v, 0, own));
        if (kind == 6) {
            for (int k = 0; k < 4; k++) {
                x.row(0, k, 2 * k + 1);
            }
        }
        for (int left = step; left > 0; left -= 60) {
            x.pass(Math.min(60, left));
        }
        men(x, one(0, 0, apart, his));
        return x.of(0, 6);
    }

    private static void nextByKind() {
        promise = 5;
        due("MAN", next(0, 0, 7, 3, 0, 0), 3);
        due("PIOUS, less", next(1, 0, 7, 3, 0, 0), 7);
        due("PIOUS, more", next(1, 0, 3, 7, 0, 1), 7);
        due("LENT, even", next(2, 0, 7, 3, 0, 0), 3);
        due("LENT, odd", next(2, 0, 7, 3, 0, 1), 7);
        due("LENT, even again", next(2, 0, 7, 3, 0, 4), 3);
        due("LENT, odd again", next(2, 0, 7, 3, 0, 3), 7);
        due("FAR, even again", next(5, 9, 7, 3, 0, 4), 3);
        due("STOUT", next(3, 0, 7, 4, 0, 0), 5);
        due("STOUT, 9 and 9", next(3, 0, 9, 9, 0, 0), 9);
        due("BEADLE, STEP 0", next(4, 0, 7, 3, 0, 0), 8);
        due("BEADLE, STEP 1", next(4, 0, 7, 3, 0, 1), 7);
        due("BEADLE, STEP 5", next(4, 0, 3, 6, 0, 5), 7);
        due("BEADLE, STEP 10, 9 at most", next(4, 0, 3, 9, 0, 10), 9);
        due("FAR, even", next(5, 3, 7, 3, 3, 0), 3);
        due("FAR, too far", next(5, 3, 7, 3, 4, 0), 7);
        due("FAR, odd", next(5, 9, 7, 3, 0, 1), 7);
        due("TOLD, STEP 0", next(6, 0, 7, 4, 0, 0), 6);
        due("TOLD, STEP 1", next(6, 0, 7, 4, 0, 1), 8);
        due("TOLD, STEP 2", next(6, 0, 7, 4, 0, 2), 0);
        due("TOLD, STEP 3", next(6, 0, 7, 4, 0, 3), 2);
        due("TOLD, STEP 4", next(6, 0, 7, 4, 0, 4), 6);
        FootmenMatch x = begin(5);
        men(x, one(6, 0, 0, 4), one(4, 0, 9, 4));
        x.row(0, 0, 3);
        read(x, "reach 8");
        due("TOLD, no LEADER", x.of(0, 6), 4);
        due("BEADLE, no LEADER", x.of(1, 6), 4);
    }

    private static void leader() {
        FootmenMatch x = begin(5);
        men(x, one(0, 0, 5, 0), one(0, 0, 3, 1), one(0, 0, 7, 2), one(0, 0, 6, 3));
        due("the nearest", x.of(0, 5), 3);
        x.away(3, true);
        due("of several the first", x.of(0, 5), 1);
        x.away(1, true);
        due("the one that is not AWAY", x.of(0, 5), 2);
        reads(x, "reach 2;shun 7 q=2", 0);
        due("PULL 1 is above 0", x.of(0, 5), 2);
        reads(x, "reach 2;shun 8 q=2", 1);
        due("PULL 0 is not", x.of(0, 5), -5);
        reads(x, "reach 1;heed 50 q=2", 2);
        due("beyond REACH", x.of(0, 5), -5);
        reads(x, "reach 0;heed 50 q=2", 3);
        x.set(2, 0, 5);
        due("REACH 0, in one room", x.of(0, 5), 2);
        x.away(1, false);
        x.set(1, 0, 5);
        reads(x, "heed 1 q=2", 4);
        due("the greatest, not the first", x.of(0, 5), 2);
    }

    private static void pull() {
        FootmenMatch x = begin(6);
        due("pull(0, 1)", x.pull(0, 1), -999999);
        men(x, one(0, 0, 0, 0), one(0, 0, 9, 0));
        due("pull(0, 1)", x.pull(0, 1), 1);
        due("pull(1, 0)", x.pull(1, 0), 1);
        due("pull(0, 0)", x.pull(0, 0), -999999);
        for (int bad : new int[] {-1, 2, LOW, HIGH}) {
            due("pull(0, " + bad + ")", x.pull(0, bad), -999999);
            due("pull(" + bad + ", 0)", x.pull(bad, 0), -999999);
            due("pull(" + bad + ", the same)", x.pull(bad, bad), -999999);
        }
        read(x, "shun 99 p=0;heed 5 q=0;heed 9 q=5;shun 1 q=1");
        due("pull(0, 1), below 0", x.pull(0, 1), 1 - 99 - 1);
        due("pull(1, 0)", x.pull(1, 0), 6);
        x.away(0, true);
        due("pull(1, 0), AWAY", x.pull(1, 0), 6);
        read(x, "reach 3");
        due("pull(1, 0), beyond REACH", x.pull(1, 0), 1);
        x.set(0, 0, 7);
        due("pull(1, 0), moved", x.pull(1, 0), 8);
    }

    private static void row() {
        FootmenMatch x = begin(7);
        men(x, one(6, 0, 0, 5), one(3, 0, 0, 5));
        due("row(0, 3, 4)", x.row(0, 3, 4), 0);
        due("row(0, 3, 9)", x.row(0, 3, 9), 4);
        due("row(0, 0, 2)", x.row(0, 0, 2), 0);
        for (int bad : new int[] {-1, 2, LOW, HIGH}) {
            due("row(" + bad + ", 0, 0)", x.row(bad, 0, 0), -1);
        }
        for (int bad : new int[] {-1, 4, LOW, HIGH}) {
            due("row(0, " + bad + ", 0)", x.row(0, bad, 0), -1);
            due("row(0, " + bad + ", 10)", x.row(0, bad, 10), -1);
        }
        for (int bad : new int[] {-1, 10, LOW, HIGH}) {
            due("row(0, 0, " + bad + ")", x.row(0, 0, bad), -2);
            due("row(1, 0, " + bad + ")", x.row(1, 0, bad), -2);
        }
        due("row(1, 0, 0)", x.row(1, 0, 0), -3);
        due("row(0, 0, 0)", x.row(0, 0, 0), 2);
        due("row(0, 3, 0)", x.row(0, 3, 0), 9);
    }

    private static void set() {
        FootmenMatch x = begin(8);
        men(x, one(0, 0, 4, 5), one(0, 0, 4, 5));
        due("set(0, 0, 9)", x.set(0, 0, 9), 4);
        due("set(0, 1, 0)", x.set(0, 1, 0), 5);
        due("set(0, 0, 0)", x.set(0, 0, 0), 9);
        due("set(0, 1, 9)", x.set(0, 1, 9), 0);
        for (int bad : new int[] {-1, 2, LOW, HIGH}) {
            due("set(" + bad + ", 0, 0)", x.set(bad, 0, 0), -1);
            due("set(0, " + bad + ", 0)", x.set(0, bad, 0), -1);
        }
        for (int bad : new int[] {-1, 10, LOW, HIGH}) {
            due("set(0, 0, " + bad + ")", x.set(0, 0, bad), -1);
            due("set(0, 1, " + bad + ")", x.set(0, 1, bad), -1);
        }
        due("of(0, 2)", x.of(0, 2), 0);
        due("of(0, 3)", x.of(0, 3), 9);
        due("of(1, 2)", x.of(1, 2), 4);
        due("of(1, 3)", x.of(1, 3), 5);
    }

    private static void away() {
        FootmenMatch x = begin(9);
        due("away(0, true)", x.away(0, true), -1);
        men(x, one(0, 0, 4, 5), one(0, 0, 4, 6));
        due("away(1, false)", x.away(1, false), 0);
        due("away(1, true)", x.away(1, true), 0);
        due("away(1, true)", x.away(1, true), 1);
        due("of(0, 4)", x.of(0, 4), 0);
        due("of(1, 4)", x.of(1, 4), 1);
        due("away(1, false)", x.away(1, false), 1);
        due("of(1, 4)", x.of(1, 4), 0);
        for (int bad : new int[] {-1, 2, 32, LOW, HIGH}) {
            due("away(" + bad + ", true)", x.away(bad, true), -1);
        }
        due("told(4)", x.told(4), 0);
    }

    private static void told() {
        FootmenMatch x = begin(10);
        men(x, one(0, 0, 0, 5), one(0, 0, 0, 6), one(0, 0, 0, 6));
        due("told(2)", x.told(2), 2);
        due("told(3), 0 follows 1, 1 and 2 follow 0", x.told(3), -5);
        x.away(0, true);
        due("told(2), 0 AWAY", x.told(2), 1);
        due("told(3)", x.told(3), 0);
        due("told(4)", x.told(4), 1);
        x.away(2, true);
        due("told(4)", x.told(4), 5);
        x.away(1, true);
        due("told(2), none", x.told(2), 0);
        due("told(3), none", x.told(3), 0);
        x = begin(10);
        men(x, one(1, 0, 0, 2), one(0, 0, 0, 7));
        due("told(3), 7 7 behind 2", x.told(3), 2);
        x.pass(1);
        due("told(3)", x.told(3), 1);
        due("told(0)", x.told(0), 1);
        for (int bad : new int[] {-1, 5, LOW, HIGH}) {
            due("told(" + bad + ")", x.told(bad), -1);
        }
        settlesLate();
    }

    /** A BEADLE and a PIOUS one climb by 1 every 5 STEPS: alike at 9, behind 41 and 42 STEPS. */
    private static void settlesLate() {
        FootmenMatch x = begin(10);
        men(x, one(4, 0, 0, 0), one(1, 0, 0, 0), one(1, 0, 0, 9));
        reads(x, "reach 9;shun 99 q=2", 0);
        due("told(2)", x.told(2), 2);
        int settles = x.told(3);
        due("on(settles)", x.on(settles, 0), 1);
        due("on(settles - 1)", x.on(settles - 1, 0), 2);
        due("told(3)", settles, 42);
        x.set(0, 1, 9);
        x.set(1, 1, 0);
        due("told(3)", x.told(3), 1);
        settlesLast();
    }

    /** Two BEADLES climb together by 1 every 10 STEPS. */
    private static void settlesLast() {
        FootmenMatch x = begin(10);
        men(x, one(4, 0, 0, 2), one(4, 0, 0, 2), one(1, 0, 0, 9));
        reads(x, "shun 99 q=2|k=4&t=5", 0);
        due("told(3), behind 61", x.told(3), -5);
        due("on(60, 0)", x.on(60, 0), 2);
        x.pass(1);
        due("told(3), behind 60", x.told(3), 60);
    }

    private static void pass() {
        FootmenMatch x = begin(11);
        men(x, one(0, 0, 0, 1), one(0, 0, 0, 2));
        due("pass(0)", x.pass(0), 0);
        due("of(0, 3)", x.of(0, 3), 1);
        due("pass(1)", x.pass(1), 1);
        due("of(0, 3), at once", x.of(0, 3), 2);
        due("of(1, 3), at once", x.of(1, 3), 1);
        for (int bad : new int[] {-1, 61, LOW, HIGH}) {
            due("pass(" + bad + ")", x.pass(bad), -2);
        }
        for (int i = 1; i <= 166; i++) {
            due("pass(60)", x.pass(60), 1 + 60 * i);
        }
        due("pass(39)", x.pass(39), -3);
        due("pass(61), BAD first", x.pass(61), -2);
        due("of(0, 3)", x.of(0, 3), 2);
        due("told(0)", x.told(0), 9961);
        due("pass(38)", x.pass(38), 9999);
        due("pass(1)", x.pass(1), -3);
        due("pass(0)", x.pass(0), 9999);
        due("of(0, 3)", x.of(0, 3), 2);
        due("on(60, 10), beyond 9999", x.on(60, 10), 2);
        due("on(59, 10), beyond 9999", x.on(59, 10), 1);
        due("told(3), beyond 9999", x.told(3), -5);
    }

    private static void on() {
        FootmenMatch x = begin(12);
        men(x, one(0, 0, 0, 1), one(3, 0, 0, 9));
        due("on(0, 0)", x.on(0, 0), 2);
        due("on(0, 10)", x.on(0, 10), 1);
        due("on(1, 10)", x.on(1, 10), 9);
        due("on(1, 11)", x.on(1, 11), 5);
        due("on(2, 10)", x.on(2, 10), 5);
        due("on(2, 11)", x.on(2, 11), 7);
        due("on(60, 0)", x.on(60, 0), 1);
        for (int bad : new int[] {-1, 61, LOW, HIGH}) {
            due("on(" + bad + ", 0)", x.on(bad, 0), -2);
            due("on(" + bad + ", 9), NONE first", x.on(bad, 9), -1);
        }
        for (int bad : new int[] {-1, 1, 9, 12, 15, 16, LOW, HIGH, LOW + 9}) {
            due("on(0, " + bad + ")", x.on(0, bad), -1);
        }
        due("told(0), nothing changed", x.told(0), 0);
        due("of(0, 3), nothing changed", x.of(0, 3), 1);
    }

    private static void steer() {
        FootmenMatch x = begin(13);
        due("steer(0, 0)", x.steer(0, 0), -1);
        men(x, one(0, 0, 0, 1), one(0, 0, 0, 2), one(0, 0, 0, 3));
        due("steer(1, 7)", x.steer(1, 7), 17);
        due("steer(0, 2), as it is it takes 1", x.steer(0, 2), 2);
        due("steer(2, 0)", x.steer(2, 0), 20);
        due("steer(2, 3), as it is", x.steer(2, 3), -5);
        x.away(2, true);
        due("steer(2, 4), AWAY", x.steer(2, 4), -5);
        due("steer(2, 3), AWAY", x.steer(2, 3), -5);
        for (int bad : new int[] {-1, 3, LOW, HIGH}) {
            due("steer(" + bad + ", 0)", x.steer(bad, 0), -1);
        }
        for (int bad : new int[] {-1, 10, LOW, HIGH}) {
            due("steer(0, " + bad + ")", x.steer(0, bad), -1);
        }
    }

    private static void tells() {
        FootmenMatch x = begin(14);
        men(x, one(0, 0, 0, 1), one(0, 0, 1, 2), one(0, 0, 3, 3), one(0, 0, 0, 3));
        x.away(3, true);
        due("tells(0, 0)", x.tells(0, 0), 1);
        due("tells(0, 1), 1 follows 0", x.tells(0, 1), 2);
        due("tells(1, 1), 0 and 2 follow 1", x.tells(1, 1), 5);
        due("tells(2, 1), nobody follows 2", x.tells(2, 1), 0);
        due("tells(2, 20)", x.tells(2, 20), 0);
        due("tells(3, 20), AWAY it stays", x.tells(3, 20), 8);
        due("tells(1, 20)", x.tells(1, 20), 2);
        for (int bad : new int[] {-1, 4, LOW, HIGH}) {
            due("tells(" + bad + ", 21)", x.tells(bad, 21), -1);
        }
        for (int bad : new int[] {-1, 21, LOW, HIGH}) {
            due("tells(0, " + bad + ")", x.tells(0, bad), -2);
        }
        due("of(1, 3)", x.of(1, 3), 2);
    }

    private static void roomed() {
        FootmenMatch x = begin(15);
        for (int k = 0; k < 6; k++) {
            due("roomed(" + k + ")", x.roomed(k), -5);
        }
        men(x, one(1, 0, 0, 1), one(1, 0, 9, 5), one(1, 0, 3, 7));
        reads(x, "reach 3", 0);
        due("roomed(-1), 1 or 2 is alone as they are", x.roomed(-1), 2);
        due("roomed(0)", x.roomed(0), 0);
        due("roomed(1)", x.roomed(1), 1);
        due("roomed(2)", x.roomed(2), 2);
        due("roomed(3)", x.roomed(3), -5);
        for (int bad : new int[] {-2, 6, LOW, HIGH}) {
            due("roomed(" + bad + ")", x.roomed(bad), -1);
        }
        x.set(1, 1, 1);
        due("roomed(-1), 0 and 1 are alike if 2 is alone", x.roomed(-1), 2);
        x.set(2, 0, 2);
        x.set(0, 1, 9);
        x.set(1, 1, 9);
        due("roomed(-1)", x.roomed(-1), 1);
        due("roomed(1)", x.roomed(1), 1);
        x.away(1, true);
        x.set(1, 0, 0);
        x.set(2, 0, 9);
        due("roomed(-1), where 1 is AWAY one of its rooms is far", x.roomed(-1), 1);
        due("roomed(0)", x.roomed(0), 0);
        due("roomed(1)", x.roomed(1), 2);
        due("roomed(2)", x.roomed(2), 1);
        due("of(2, 2), nothing changed", x.of(2, 2), 9);
        x.away(0, true);
        x.away(2, true);
        due("roomed(-1), all AWAY", x.roomed(-1), 0);
        due("roomed(1)", x.roomed(1), 1);
        roomedFirst();
    }

    /** The one in STATE 9 tells on all behind 3 STEPS, if its room is none of the two at the ends. */
    private static void roomedFirst() {
        FootmenMatch x = begin(15);
        due("roomed(-1)", x.roomed(-1), 0);
        men(x, one(1, 0, 0, 9));
        due("roomed(-1)", x.roomed(-1), 1);
        due("roomed(0)", x.roomed(0), 0);
        men(x, one(1, 0, 2, 0), one(1, 0, 4, 0), one(1, 0, 6, 0), one(1, 0, 8, 0));
        reads(x, "reach 2", 0);
        due("on(3, 0), as they are", x.on(3, 0), 2);
        due("on(4, 0), as they are", x.on(4, 0), 1);
        int[] whose = {1, 0, 2, 3, 4, -5};
        due("roomed(-1)", x.roomed(-1), 1);
        for (int k = 0; k < whose.length; k++) {
            due("roomed(" + k + ")", x.roomed(k), whose[k]);
        }
        x.pass(1);
        due("roomed(0), two are in 9", x.roomed(0), 0);
        x.set(1, 1, 0);
        due("roomed(0), one again", x.roomed(0), 1);
        x.set(0, 0, 4);
        x.set(2, 0, 0);
        due("roomed(0), it is in the middle", x.roomed(0), 0);
        x.away(0, true);
        due("roomed(-1), all others in 0", x.roomed(-1), 1);
        x.away(0, false);
        x.set(0, 0, 0);
        x.set(2, 0, 4);
        x.image();
        reads(x, "heed 99 q=0", 1);
        due("roomed(0), all follow 0", x.roomed(0), 0);
        x.undo();
        due("roomed(0), reach 2 again", x.roomed(0), 1);
    }

    private static void see() {
        FootmenMatch x = begin(16);
        due("see(0, 0, 0)", x.see(0, 0, 0), -1);
        due("see(-1, 99, 99)", x.see(-1, 99, 99), 0);
        men(x, one(0, 0, 0, 1), one(0, 0, 0, 2));
        due("see(0, 0, 0)", x.see(0, 0, 0), 1);
        due("see(1, 20, 9)", x.see(1, 20, 9), 2);
        for (int bad : new int[] {-2, 2, LOW, HIGH}) {
            due("see(" + bad + ", 0, 0)", x.see(bad, 0, 0), -1);
            due("see(" + bad + ", 21, 0)", x.see(bad, 21, 0), -1);
        }
        for (int bad : new int[] {-1, 10, LOW, HIGH}) {
            due("see(0, 21, " + bad + ")", x.see(0, 21, bad), -1);
        }
        for (int i = 3; i <= 6; i++) {
            due("see(0, 1, 1)", x.see(0, 1, 1), i);
        }
        for (int bad : new int[] {-1, 21, LOW, HIGH}) {
            due("see(0, " + bad + ", 0), BAD ahead of FULL", x.see(0, bad, 0), -2);
        }
        due("see(0, 1, 1)", x.see(0, 1, 1), -4);
        due("count(2)", x.count(2), 6);
        due("see(-1, ..)", x.see(-1, LOW, HIGH), 0);
        due("count(2)", x.count(2), 0);
    }

    private static void states() {
        FootmenMatch x = begin(17);
        due("states(0)", x.states(0), -1);
        men(x, one(3, 0, 0, 1), one(0, 0, 0, 6));
        due("states(0), nothing SEEN", x.states(0), 1023);
        x.see(0, 1, 5);
        due("states(0), half of it and 6 is 5", x.states(0), 1 << 4 | 1 << 5);
        due("states(1), half of it and 1 is 5", x.states(1), 1 << 9);
        x.see(1, 1, 4);
        due("states(0)", x.states(0), 1 << 4);
        due("states(1)", x.states(1), 0);
        x.see(0, 0, 4);
        due("states(0)", x.states(0), 1 << 4);
        x.see(-1, 0, 0);
        x.see(0, 20, 6);
        x.away(1, true);
        due("states(0), it stays alone", x.states(0), 1 << 6);
        due("states(1), it does not tell, and 0 is in 1", x.states(1), 0);
        for (int bad : new int[] {-1, 2, LOW, HIGH}) {
            due("states(" + bad + ")", x.states(bad), -1);
        }
    }

    private static void where() {
        FootmenMatch x = begin(18);
        due("where(0)", x.where(0), -1);
        men(x, one(0, 0, 0, 1), one(0, 0, 2, 6), one(0, 0, 8, 3));
        due("where(0), nothing SEEN", x.where(0), 1023);
        x.see(0, 1, 6);
        due("where(0), 1 is no farther than 2 up to room 5", x.where(0), 0b0000111111);
        x.see(1, 1, 3);
        due("where(0), and farther from 1 than 2 is", x.where(0), 0);
        x.see(-1, 0, 0);
        x.see(1, 1, 3);
        due("where(0)", x.where(0), 1 << 9);
        due("where(2), nearer to 1 than 0 is", x.where(2), 1 << 1 | 1 << 2 | 1 << 3);
        for (int bad : new int[] {-1, 3, LOW, HIGH}) {
            due("where(" + bad + ")", x.where(bad), -1);
        }
        due("of(0, 2)", x.of(0, 2), 0);
    }

    private static void firm() {
        FootmenMatch x = begin(19);
        due("firm(0, 0)", x.firm(0, 0), -1);
        men(x, one(5, 0, 0, 1), one(0, 0, 4, 6));
        due("firm(0, 0), nothing SEEN", x.firm(0, 0), 10);
        due("firm(0, 1)", x.firm(0, 1), 0);
        x.see(0, 1, 6);
        due("firm(0, 0), v 4 .. 9", x.firm(0, 0), 6);
        due("firm(0, 1)", x.firm(0, 1), 4);
        due("firm(1, 0), no v of 1 tells", x.firm(1, 0), 0);
        due("firm(1, 1)", x.firm(1, 1), -5);
        x.see(-1, 0, 0);
        x.see(0, 1, 1);
        due("firm(0, 0), v 0 .. 3", x.firm(0, 0), 4);
        due("firm(0, 1)", x.firm(0, 1), 0);
        due("firm(1, 0), as it is", x.firm(1, 0), 10);
        for (int bad : new int[] {-1, 2, LOW, HIGH}) {
            due("firm(" + bad + ", 0)", x.firm(bad, 0), -1);
            due("firm(0, " + bad + ")", x.firm(0, bad), -1);
        }
        due("of(0, 1)", x.of(0, 1), 0);
    }

    private static void odds() {
        FootmenMatch x = begin(20);
        due("odds, nobody", x.odds(0, 0, 0, 0, 0), NO);
        men(x, one(3, 0, 0, 1), one(1, 0, 0, 6));
        due("odds(0, 0, 3, 0, 0)", x.odds(0, 0, 3, 0, 0), 1);
        due("odds(0, 0, 3, 0, 1)", x.odds(0, 0, 3, 0, 1), 10);
        due("odds(0, 0, 5, 1, 0)", x.odds(0, 0, 5, 1, 0), 1);
        due("odds(0, 0, 5, 1, 1)", x.odds(0, 0, 5, 1, 1), 5);
        due("odds(0, 1, 6, 1, 0)", x.odds(0, 1, 6, 1, 0), 7);
        due("odds(0, 1, 6, 1, 1)", x.odds(0, 1, 6, 1, 1), 10);
        due("odds(0, 1, 5, 1, 0)", x.odds(0, 1, 5, 1, 0), 0);
        due("odds(0, 1, 5, 1, 1)", x.odds(0, 1, 5, 1, 1), 1);
        due("odds(0, 1, 6, 0, 0)", x.odds(0, 1, 6, 0, 0), 1);
        due("odds(0, 1, 6, 0, 1)", x.odds(0, 1, 6, 0, 1), 1);
        due("odds(1, 1, 9, 60, 0)", x.odds(1, 1, 9, 60, 0), 1);
        due("odds(1, 1, 9, 60, 1)", x.odds(1, 1, 9, 60, 1), 10);
        for (int bad : new int[] {-1, 2, LOW, HIGH}) {
            due("odds, man " + bad, x.odds(bad, 0, 0, 0, 0), NO);
            due("odds, other " + bad, x.odds(0, bad, 0, 0, 0), NO);
            due("odds, part " + bad, x.odds(0, 0, 0, 0, bad), NO);
        }
        for (int bad : new int[] {-1, 10, LOW, HIGH}) {
            due("odds, state " + bad, x.odds(0, 0, bad, 0, 0), NO);
        }
        for (int bad : new int[] {-1, 61, LOW, HIGH}) {
            due("odds, n " + bad, x.odds(0, 0, 0, bad, 0), NO);
        }
    }

    private static void mean() {
        FootmenMatch x = begin(21);
        due("mean(0)", x.mean(0), NO);
        men(x, one(0, 0, 0, 0), one(0, 0, 0, 0));
        due("mean(0), none together", x.mean(0), 0);
        due("mean(1)", x.mean(1), 1);
        men(x, one(0, 0, 0, 4), one(0, 0, 0, 6));
        due("mean(0), 10 by 4", x.mean(0), 5);
        due("mean(1)", x.mean(1), 2);
        x.away(2, true);
        due("mean(0), 6 by 3", x.mean(0), 2);
        due("mean(1)", x.mean(1), 1);
        x.set(0, 1, 1);
        due("mean(0), 7 by 3", x.mean(0), 7);
        due("mean(1)", x.mean(1), 3);
        for (int bad : new int[] {-1, 2, LOW, HIGH}) {
            due("mean(" + bad + ")", x.mean(bad), NO);
        }
        for (int i = 0; i < 4; i++) {
            x.away(i, true);
        }
        due("mean(0), all AWAY", x.mean(0), NO);
        due("mean(1), all AWAY", x.mean(1), NO);
    }

    private static void plan() {
        FootmenMatch x = begin(22);
        due("plan(1, 0)", x.plan(1, 0), -1);
        due("plan(0, LOW), not looked at", x.plan(0, LOW), 1);
        due("plan(-1, 77)", x.plan(-1, 77), 0);
        due("count(3)", x.count(3), 0);
        men(x, one(0, 0, 0, 0), one(0, 0, 0, 0));
        for (int bad : new int[] {-2, 4, LOW, HIGH}) {
            due("plan(" + bad + ", 0)", x.plan(bad, 0), -1);
        }
        for (int bad : new int[] {-1, 2, 10, LOW, HIGH}) {
            due("plan(1, " + bad + ")", x.plan(1, bad), -1);
            due("plan(2, " + bad + ")", x.plan(2, bad), -1);
        }
        for (int bad : new int[] {-1, -9, -10, 20, LOW, HIGH}) {
            due("plan(3, " + bad + ")", x.plan(3, bad), -1);
        }
        due("plan(3, 19)", x.plan(3, 19), 1);
        due("plan(3, 0)", x.plan(3, 0), 2);
        due("plan(1, 1)", x.plan(1, 1), 3);
        due("plan(2, 0)", x.plan(2, 0), 4);
        for (int i = 5; i <= 8; i++) {
            due("plan(0, 0)", x.plan(0, HIGH), i);
        }
        due("plan(0, 0), full", x.plan(0, 0), -4);
        due("plan(1, 2), NONE ahead of FULL", x.plan(1, 2), -1);
        due("plan(4, 2), NONE ahead of FULL", x.plan(4, 2), -1);
        due("count(3)", x.count(3), 8);
        due("plan(-1, 0)", x.plan(-1, 0), 0);
        due("plan(0, 0)", x.plan(0, 0), 1);
    }

    private static void done() {
        FootmenMatch x = begin(23);
        due("done(0)", x.done(0), 0);
        due("done(1)", x.done(1), 0);
        men(x, one(0, 0, 0, 1), one(0, 0, 5, 4), one(0, 0, 9, 7));
        due("done(0), nothing planned", x.done(0), 3);
        due("done(1)", x.done(1), 12);
        x.plan(0, 0);
        due("done(0), 4 7 4", x.done(0), 2);
        due("done(1)", x.done(1), 15);
        x.plan(1, 1);
        due("done(0), 4 and 4", x.done(0), 1);
        due("done(1), AWAY or not", x.done(1), 15);
        x.plan(-1, 0);
        x.plan(3, 20);
        x.plan(1, 1);
        x.plan(0, 0);
        due("done(1), 7 4 1", x.done(1), 12);
        x.plan(2, 1);
        x.plan(3, 19);
        x.plan(3, 28);
        x.plan(0, 0);
        due("done(0), 0 follows 2, 1 follows 2, 2 follows 1", x.done(0), 2);
        due("done(1), 1 1 4", x.done(1), 6);
        for (int bad : new int[] {-1, 2, LOW, HIGH}) {
            due("done(" + bad + ")", x.done(bad), -1);
        }
        x.plan(-1, 0);
        x.plan(3, 10);
        x.plan(3, 1);
        x.plan(0, 0);
        due("done(1), as 0 of room 1 and 1 of room 0 are near", x.done(1), 4 + 1 + 1);
        men(x, one(0, 0, 0, 0), one(0, 0, 0, 0), one(0, 0, 9, 8));
        x.plan(-1, 0);
        x.plan(3, 56);
        x.plan(3, 29);
        x.plan(0, 0);
        due("done(1), 0 4 follow 3, 1 follows 5, 2 follows 5, 3 follows 0, 5 follows 1", x.done(1), 0 + 8 + 8 + 1 + 1 + 4);
        due("told(0), nothing changed", x.told(0), 0);
        due("told(4), nothing changed", x.told(4), 0);
        due("of(2, 2), nothing changed", x.of(2, 2), 9);
        due("of(0, 3), nothing changed", x.of(0, 3), 1);
    }

    private static void book() {
        FootmenMatch x = begin(24);
        due("book(0, 0)", x.book(0, 0), -1);
        due("book(-1, LOW)", x.book(-1, LOW), 0);
        men(x, one(0, 0, 0, 1));
        for (int bad : new int[] {-2, 1, LOW, HIGH}) {
            due("book(" + bad + ", 0)", x.book(bad, 0), -1);
        }
        for (int bad : new int[] {-1, 10, LOW, HIGH}) {
            due("book(0, " + bad + ")", x.book(0, bad), -1);
        }
        for (int i = 1; i <= 8; i++) {
            due("book(0, 9)", x.book(0, i), i);
        }
        due("book(0, 1), full", x.book(0, 1), -4);
        due("book(1, 1), NONE ahead of FULL", x.book(1, 1), -1);
        due("count(4)", x.count(4), 8);
        due("book(-1, 5)", x.book(-1, 5), 0);
        due("count(4)", x.count(4), 0);
    }

    private static void looked() {
        FootmenMatch x = begin(25);
        due("looked(), nothing booked", x.looked(), -5);
        men(x, one(0, 0, 0, 1), one(0, 0, 0, 2));
        x.book(0, 1);
        x.book(1, 2);
        x.book(1, 2);
        due("looked(), all as told", x.looked(), -5);
        x.set(1, 1, 3);
        due("looked()", x.looked(), 1);
        x.set(0, 1, 0);
        due("looked()", x.looked(), 0);
        x.book(-1, 0);
        x.book(1, 3);
        x.book(0, 0);
        x.book(0, 5);
        due("looked()", x.looked(), 2);
        x.pass(1);
        due("looked()", x.looked(), 0);
    }

    private static void act() {
        FootmenMatch x = begin(26);
        due("act(0, 0, 5)", x.act(0, 0, 5), 0);
        men(x, one(0, 3, 0, 0), one(1, 4, 0, 0), one(2, 5, 0, 0), one(3, 6, 0, 0), one(4, 7, 0, 0), one(5, 8, 0, 0));
        int[][] want = {{10, 7, 14}, {31, 27, 54}, {12, -7, -14}, {13, 7, 9}, {34, 27, 58}, {10, -2, -4}};
        for (int man = 0; man < 6; man++) {
            for (int act = 0; act < 3; act++) {
                due("act(" + man + ", " + act + ", 10)", x.act(man, act, 10), want[man][act]);
            }
        }
        for (int bad : new int[] {-1, 6, LOW, HIGH}) {
            due("act(" + bad + ", 0, 5)", x.act(bad, 0, 5), 0);
        }
        for (int bad : new int[] {-1, 3, LOW, HIGH}) {
            due("act(1, " + bad + ", 5)", x.act(1, bad, 5), 0);
        }
        due("act(1, 0, HIGH), wrapping", x.act(1, 0, HIGH), HIGH * 3 + 1);
        due("act(0, 2, LOW), wrapping", x.act(0, 2, LOW), -6);
        x = begin(26);
        men(x, one(0, 0, 0, 0), one(6, 9, 0, 0));
        due("TOLD bows", x.act(1, 0, 10), 11);
        due("TOLD serves", x.act(1, 1, 10), 11);
        due("TOLD weeps", x.act(1, 2, 10), 22 ^ 7);
    }

    private static void ran(FootmenMatch x, int man, int act, int... bodies) {
        x.act(man, act, 3);
        due("count(6)", x.count(6), bodies.length);
        for (int i = 0; i < bodies.length; i++) {
            due("trace(" + i + ") of " + man + ", " + act, x.trace(i), bodies[i]);
        }
        due("trace(behind)", x.trace(bodies.length), -1);
    }

    private static void trace() {
        FootmenMatch x = begin(27);
        due("trace(0)", x.trace(0), -1);
        men(x, one(6, 3, 0, 0), one(1, 4, 0, 0), one(2, 5, 0, 0), one(3, 6, 0, 0), one(4, 7, 0, 0), one(5, 8, 0, 0));
        ran(x, 0, 0, 1);
        ran(x, 0, 1, 61, 2, 1);
        ran(x, 0, 2, 31, 3, 61, 2, 1);
        ran(x, 1, 0, 11, 1);
        ran(x, 1, 1, 2, 11, 1);
        ran(x, 1, 2, 3, 2, 11, 1);
        ran(x, 2, 0, 1);
        ran(x, 2, 1, 21, 2, 1);
        ran(x, 2, 2, 3, 21, 2, 1);
        ran(x, 3, 1, 2, 1);
        ran(x, 3, 2, 31, 3, 2, 1);
        ran(x, 4, 0, 11, 1);
        ran(x, 4, 2, 41, 3, 2, 11, 1, 11, 1);
        ran(x, 5, 0, 51, 1);
        ran(x, 5, 1, 21, 2, 51, 1);
        ran(x, 5, 2, 3, 21, 2, 51, 1);
        for (int bad : new int[] {-1, 5, 20, LOW, HIGH}) {
            due("trace(" + bad + ")", x.trace(bad), -1);
        }
        x.act(9, 0, 0);
        due("trace(0), no such FOOTMAN", x.trace(0), -1);
        due("count(6)", x.count(6), 0);
        x.act(0, 0, 0);
        due("trace(0)", x.trace(0), 1);
        x.act(0, 3, 0);
        due("trace(0), no such act", x.trace(0), -1);
    }

    private static void as() {
        FootmenMatch x = begin(28);
        due("as(0, 0)", x.as(0, 0), -1);
        int[] above = {0, 0, 0, 0, 1, 2, 3};
        for (int kind = 0; kind < 7; kind++) {
            x = begin(28);
            men(x, one(kind, kind + 2, 0, 0));
            for (int k = 0; k < 7; k++) {
                boolean is = k == 0 || k == kind || k == above[kind];
                due("as(kind " + kind + ", " + k + ")", x.as(0, k), is ? kind + 2 : -6);
            }
        }
        for (int bad : new int[] {-1, 1, LOW, HIGH}) {
            due("as(" + bad + ", 0)", x.as(bad, 0), -1);
        }
        for (int bad : new int[] {-1, 7, LOW, HIGH}) {
            due("as(0, " + bad + ")", x.as(0, bad), -1);
        }
    }

    private static void image() {
        FootmenMatch x = begin(29);
        due("image()", x.image(), 0);
        men(x, one(0, 0, 0, 0), one(0, 0, 0, 0));
        due("image()", x.image(), 2);
        due("image()", x.image(), 2);
        due("count(0)", x.count(0), 2);
    }

    private static void undo() {
        FootmenMatch x = begin(30);
        due("undo()", x.undo(), -3);
        men(x, one(6, 1, 2, 3), one(0, 4, 5, 6));
        reads(x, "reach 4", 0);
        x.row(0, 1, 8);
        x.away(1, true);
        x.pass(7);
        x.see(0, 1, 2);
        x.plan(0, 0);
        x.book(0, 3);
        x.feed('r');
        due("image()", x.image(), 2);
        x.act(0, 2, 1);
        men(x, one(5, 9, 9, 9));
        x.feed('e');
        for (char sign : "ach 5".toCharArray()) {
            x.feed(sign);
        }
        due("house()", x.house(), 1);
        due("told(1)", x.told(1), 5);
        x.row(0, 1, 0);
        x.away(1, false);
        x.away(2, true);
        x.set(0, 0, 9);
        x.set(1, 1, 0);
        x.pass(2);
        x.see(0, 1, 2);
        x.plan(1, 0);
        x.book(0, 4);
        for (int again = 0; again < 2; again++) {
            due("undo()", x.undo(), 2);
            int[] counts = {2, 1, 1, 1, 1, 1, 5};
            for (int what = 0; what < counts.length; what++) {
                due("count(" + what + ")", x.count(what), counts[what]);
            }
            due("trace(0), THE TRACE is not in it", x.trace(0), 31);
            due("told(0)", x.told(0), 7);
            due("told(1)", x.told(1), 4);
            due("told(4)", x.told(4), 2);
            due("of(0, 2)", x.of(0, 2), 2);
            due("of(0, 3)", x.of(0, 3), 3);
            due("of(1, 3)", x.of(1, 3), 6);
            due("row(0, 1, 5)", x.row(0, 1, 5), 8);
            due("of(2, 0)", x.of(2, 0), -1);
            x.see(-1, 0, 0);
            x.plan(-1, 0);
            x.book(-1, 0);
            x.pass(50);
        }
        x.undo();
        men(x, one(6, 0, 0, 0));
        due("of(2, 4), a new one is not AWAY", x.of(2, 4), 0);
        for (int k = 0; k < 4; k++) {
            due("row(2, k, 0), 0 at first", x.row(2, k, 0), 0);
        }
        undoHouses();
        undoLast();
    }

    /** The last of the most FOOTMEN comes back whole. */
    private static void undoLast() {
        FootmenMatch x = begin(30);
        for (int i = 0; i < 6; i++) {
            men(x, one(6, 9 - i, i, i + 1));
        }
        x.row(5, 0, 1);
        x.row(5, 3, 4);
        x.away(5, true);
        due("image()", x.image(), 6);
        x.row(5, 0, 7);
        x.row(5, 3, 7);
        x.away(5, false);
        x.set(5, 0, 0);
        x.set(5, 1, 0);
        due("undo()", x.undo(), 6);
        int[] last = {6, 4, 5, 6, 1};
        for (int what = 0; what < last.length; what++) {
            due("of(5, " + what + ")", x.of(5, what), last[what]);
        }
        due("row(5, 0, 0)", x.row(5, 0, 0), 1);
        due("row(5, 3, 0)", x.row(5, 3, 0), 4);
    }

    /** PULL by a HOUSE that comes and goes, of FOOTMEN who come anew as another KIND. */
    private static void undoHouses() {
        FootmenMatch x = begin(30);
        men(x, one(0, 0, 0, 1));
        x.image();
        reads(x, "heed 5 k=1;shun 2 k=2", 0);
        men(x, one(1, 0, 0, 1));
        due("pull(1, 0), PIOUS", x.pull(1, 0), 15);
        x.undo();
        due("told(1)", x.told(1), 9);
        men(x, one(2, 0, 0, 1));
        due("pull(1, 0), no HOUSE", x.pull(1, 0), 10);
        reads(x, "heed 5 k=1;shun 2 k=2", 0);
        due("pull(1, 0), LENT", x.pull(1, 0), 8);
        due("image()", x.image(), 2);
        reads(x, "shun 3 p=1", 1);
        due("pull(1, 0)", x.pull(1, 0), 7);
        x.undo();
        due("pull(1, 0)", x.pull(1, 0), 8);
        reads(x, "shun 4 p=1", 1);
        due("pull(1, 0)", x.pull(1, 0), 6);
    }

    private static void count() {
        FootmenMatch x = begin(31);
        men(x, one(0, 0, 0, 0), one(4, 0, 0, 0));
        reads(x, "reach 1", 0);
        reads(x, "reach 1", 1);
        reads(x, "reach 1", 2);
        for (int i = 0; i < 4; i++) {
            x.see(0, 0, 0);
        }
        for (int i = 0; i < 5; i++) {
            x.plan(0, 0);
        }
        for (int i = 0; i < 6; i++) {
            x.book(0, 0);
        }
        for (int i = 0; i < 8; i++) {
            x.feed(' ');
        }
        x.act(1, 2, 0);
        int[] counts = {2, 3, 4, 5, 6, 8, 7};
        for (int what = 0; what < counts.length; what++) {
            due("count(" + what + ")", x.count(what), counts[what]);
        }
        for (int bad : new int[] {-1, 7, LOW, HIGH}) {
            due("count(" + bad + ")", x.count(bad), -1);
        }
    }
}
