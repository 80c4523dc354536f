/** The sentences of the promises that name an edge or a refusal, a test for each. */
public final class EdgesTest extends Sentences {
    private static final int[] NO_DIGIT = {-1, 10, LOW, HIGH};

    public static void main(String[] args) {
        constants();
        houses();
        footmen();
        changes();
        told();
        steps();
        stepsToCome();
        seen();
        odds();
        plans();
        books();
        acts();
        images();
        everyPromise(31);
        end();
    }

    /** Numbers that are none of so many that there are, from 0 on. */
    private static int[] noneOf(int many) {
        return new int[] {-1, many, many + 1, LOW, HIGH};
    }

    private static void constants() {
        promise(1, "No FOOTMEN, no HOUSE.", () -> {
            FootmenMatch other = of(one(6, 1, 2, 3));
            other.row(0, 0, 9);
            read(other, "reach 2");
            other.pass(4);
            other.image();
            other.act(0, 0, 0);
            write(other, "x");
            other.see(0, 0, 0);
            other.plan(0, 0);
            other.book(0, 0);
            FootmenMatch x = new FootmenMatch();
            for (int what = 0; what < 7; what++) {
                due("count(" + what + ")", x.count(what), 0);
            }
            due("of(0, 0)", x.of(0, 0), NONE);
            due("told(0)", x.told(0), 0);
            due("told(1)", x.told(1), 9);
            due("undo()", x.undo(), STATE);
            due("man()", x.man(6, 0, 0, 0), 0);
            due("row(0, 0, 0)", x.row(0, 0, 0), 0);
            due("constant NONE", FootmenMatch.NONE, -1);
            due("constant BAD", FootmenMatch.BAD, -2);
            due("constant STATE", FootmenMatch.STATE, -3);
            due("constant FULL", FootmenMatch.FULL, -4);
            due("constant NO", FootmenMatch.NO, NO);
        });
    }

    private static void houses() {
        promise(2, "A sign (0 .. 127) comes behind THE TAPE's: how many it has.", () -> {
            FootmenMatch x = new FootmenMatch();
            due("feed(0)", x.feed(0), 1);
            due("feed(127)", x.feed(127), 2);
            x = mere(2);
            for (char sign : "reach 12".toCharArray()) {
                x.feed(sign);
            }
            due("house(), in their order", x.house(), 0);
            due("told(1)", x.told(1), 12);
        });
        promise(2, "BAD; FULL.", () -> {
            FootmenMatch x = new FootmenMatch();
            for (int bad : new int[] {-1, 128, 256, LOW, HIGH}) {
                due("feed(" + bad + ")", x.feed(bad), BAD);
            }
            for (int i = 1; i <= 100; i++) {
                due("feed()", x.feed('r'), i);
            }
            due("feed(0), the 101st", x.feed(0), FULL);
            due("feed(128), the 101st", x.feed(128), BAD);
            due("count(5)", x.count(5), 100);
        });
        promise(3, "THE TAPE, which is empty then (by a FAULT, too), is a HOUSE, and holds: its number", () -> {
            FootmenMatch x = new FootmenMatch();
            due("house()", read(x, "reach 3"), 0);
            due("count(5), empty", x.count(5), 0);
            due("told(1), it holds", x.told(1), 3);
            due("house(), a FAULT", read(x, "reach 4;"), -18);
            due("count(5), empty by a FAULT", x.count(5), 0);
            due("feed()", x.feed('r'), 1);
            due("house(), the rest alone", read(x, "each 5"), 1);
            due("told(1)", x.told(1), 5);
        });
        promise(3, "-10 less the FAULT (the one that held holds)", () -> {
            FootmenMatch x = mere(2);
            due("house(), FAULT 0", read(x, "x"), -10);
            due("told(1), none held", x.told(1), 9);
            due("house()", read(x, "reach 3;heed 7 p=0"), 0);
            due("house(), FAULT 9", read(x, "reach 88;x"), -19);
            due("house(), FAULT 100", read(x, "heed 99 p=0" + "&p=0".repeat(22) + "&"), -110);
            due("house(), FAULT 99", read(x, "heed 99 p=0" + "&p=0".repeat(22) + "x"), -109);
            due("told(1)", x.told(1), 3);
            due("pull(0, 1)", x.pull(0, 1), 17);
            due("count(1)", x.count(1), 1);
        });
        promise(3, "FULL (ahead of all; THE TAPE stays).", () -> {
            FootmenMatch x = new FootmenMatch();
            x.image();
            for (int i = 0; i < 5; i++) {
                due("house()", read(x, "reach " + i), i);
            }
            due("house(), THE TAPE is empty", x.house(), FULL);
            write(x, "x");
            due("house(), FULL ahead of a FAULT", x.house(), FULL);
            due("count(5)", x.count(5), 1);
            due("house(), again", x.house(), FULL);
            due("feed(), behind what stays", x.feed('y'), 2);
            due("told(1)", x.told(1), 4);
            due("undo()", x.undo(), 0);
            due("house(), not FULL any more", read(x, "reach 8"), 0);
        });
    }

    private static void footmen() {
        promise(4, "One of FOOTMEN: its number.", () -> {
            FootmenMatch x = new FootmenMatch();
            for (int i = 0; i < 6; i++) {
                due("man()", x.man(6 - i, i + 1, i + 2, i + 3), i);
            }
            for (int i = 0; i < 6; i++) {
                due("of(" + i + ", 0)", x.of(i, 0), 6 - i);
                due("of(" + i + ", 1)", x.of(i, 1), i + 1);
                due("of(" + i + ", 2)", x.of(i, 2), i + 2);
                due("of(" + i + ", 3)", x.of(i, 3), i + 3);
            }
        });
        promise(4, "NONE: kind, room, state; BAD: v; FULL: 6.", () -> {
            FootmenMatch x = new FootmenMatch();
            for (int many = 0; many < 2; many++) {
                for (int bad : noneOf(7)) {
                    due("man(), kind " + bad, x.man(bad, 0, 0, 0), NONE);
                    due("man(), kind " + bad + ", v -1", x.man(bad, -1, 0, 0), NONE);
                }
                for (int bad : NO_DIGIT) {
                    due("man(), room " + bad, x.man(0, 0, bad, 0), NONE);
                    due("man(), state " + bad, x.man(0, 0, 0, bad), NONE);
                    due("man(), v " + bad, x.man(0, bad, 0, 0), BAD);
                    due("man(), v and state " + bad, x.man(0, bad, 0, bad), NONE);
                }
                for (int i = 0; i < 6; i++) {
                    due("man()", x.man(0, 0, 0, 0), many == 0 ? i : FULL);
                }
            }
            due("count(0)", x.count(0), 6);
        });
        promise(5, "Of one what 0 KIND, 1 v, 2 ROOM, 3 its STATE, 4 whether it is AWAY, 5 its LEADER (-5), 6 NEXT.", () -> {
            FootmenMatch x = of(one(4, 7, 3, 2));
            int[] alone = {4, 7, 3, 2, 0, MISSING, 2};
            int[] both = {4, 7, 3, 2, 0, 1, 9};
            int[] away = {4, 7, 3, 2, 1, MISSING, 2};
            for (int what = 0; what < 7; what++) {
                due("of(0, " + what + "), alone", x.of(0, what), alone[what]);
            }
            add(x, one(0, 0, 9, 8));
            for (int what = 0; what < 7; what++) {
                due("of(0, " + what + "), with a LEADER", x.of(0, what), both[what]);
            }
            due("of(1, 5), LEADER 0", x.of(1, 5), 0);
            x.away(0, true);
            for (int what = 0; what < 7; what++) {
                due("of(0, " + what + "), AWAY", x.of(0, what), away[what]);
            }
        });
        promise(5, "NONE.", () -> {
            FootmenMatch x = mere(2);
            for (int bad : noneOf(2)) {
                due("of(" + bad + ", 0)", x.of(bad, 0), NONE);
            }
            for (int bad : noneOf(7)) {
                due("of(0, " + bad + ")", x.of(0, bad), NONE);
            }
        });
        promise(6, "-999999: NONE, or one is both.", () -> {
            FootmenMatch x = mere(2);
            due("pull(0, 1)", x.pull(0, 1), 10);
            for (int one = 0; one < 2; one++) {
                due("pull of one by itself", x.pull(one, one), -999999);
                for (int bad : noneOf(2)) {
                    due("pull(" + one + ", " + bad + ")", x.pull(one, bad), -999999);
                    due("pull(" + bad + ", " + one + ")", x.pull(bad, one), -999999);
                    due("pull(" + bad + ", itself)", x.pull(bad, bad), -999999);
                }
            }
        });
    }

    private static void changes() {
        promise(6, "PULL on one by another one.", () -> {
            FootmenMatch x = of(one(0, 0, 0, 0), one(0, 0, 9, 0));
            due("pull(0, 1)", x.pull(0, 1), 1);
            due("house()", read(x, "reach 8;shun 3 p=0"), 0);
            due("pull(0, 1), beyond REACH", x.pull(0, 1), -2);
            due("pull(1, 0), beyond REACH", x.pull(1, 0), 1);
            x.away(0, true);
            due("pull(0, 1), AWAY", x.pull(0, 1), -2);
            due("pull(1, 0), the other is AWAY", x.pull(1, 0), 1);
        });
        promise(7, "The ROW of a TOLD one becomes n (0 .. 9) for STEPS modulo 4 being k: what it was.", () -> {
            FootmenMatch x = of(one(6, 0, 0, 0), one(1, 0, 0, 0));
            for (int k = 0; k < 4; k++) {
                due("row(0, k, 9)", x.row(0, k, 9), 0);
                due("row(0, k, 0)", x.row(0, k, 0), 9);
                due("row(0, k, 2 k + 1)", x.row(0, k, 2 * k + 1), 0);
            }
            for (int step = 0; step < 9; step++) {
                x.set(0, 1, 0);
                x.set(1, 1, 0);
                due("of(0, 6), STEP " + step, x.of(0, 6), 2 * (step % 4) + 1);
                x.pass(1);
            }
        });
        promise(7, "NONE: man, k; BAD; STATE: another KIND.", () -> {
            for (int kind = 0; kind < 7; kind++) {
                FootmenMatch x = of(one(kind, 0, 0, 0));
                due("row(0, 0, 9), KIND " + kind, x.row(0, 0, 9), kind == 6 ? 0 : STATE);
                due("row(0, 3, 0), KIND " + kind, x.row(0, 3, 0), kind == 6 ? 0 : STATE);
                for (int bad : noneOf(1)) {
                    due("row(" + bad + ", 0, 10)", x.row(bad, 0, 10), NONE);
                }
                for (int bad : noneOf(4)) {
                    due("row(0, " + bad + ", 10), KIND " + kind, x.row(0, bad, 10), NONE);
                    due("row(0, " + bad + ", 0), KIND " + kind, x.row(0, bad, 0), NONE);
                }
                for (int bad : NO_DIGIT) {
                    due("row(0, 0, " + bad + "), KIND " + kind, x.row(0, 0, bad), BAD);
                }
            }
        });
        promise(8, "Of one 0 ROOM, 1 its STATE becomes n: what it was.", () -> {
            FootmenMatch x = of(one(0, 0, 4, 5), one(0, 0, 6, 7));
            due("set(1, 0, 0)", x.set(1, 0, 0), 6);
            due("set(1, 0, 9)", x.set(1, 0, 9), 0);
            due("set(1, 0, 9), as it is", x.set(1, 0, 9), 9);
            due("set(1, 1, 0)", x.set(1, 1, 0), 7);
            due("set(1, 1, 9)", x.set(1, 1, 9), 0);
            due("of(1, 2)", x.of(1, 2), 9);
            due("of(1, 3)", x.of(1, 3), 9);
            due("of(0, 2)", x.of(0, 2), 4);
            due("of(0, 3)", x.of(0, 3), 5);
        });
        promise(8, "NONE: man, what, n.", () -> {
            FootmenMatch x = mere(2);
            for (int bad : noneOf(2)) {
                due("set(" + bad + ", 0, 0)", x.set(bad, 0, 0), NONE);
                due("set(0, " + bad + ", 0)", x.set(0, bad, 0), NONE);
            }
            for (int bad : NO_DIGIT) {
                due("set(0, 0, " + bad + ")", x.set(0, 0, bad), NONE);
                due("set(0, 1, " + bad + ")", x.set(0, 1, bad), NONE);
            }
        });
        promise(9, "One is AWAY, or not: whether it was.", () -> {
            FootmenMatch x = mere(6);
            for (int i : new int[] {0, 5}) {
                due("away(i, false), at first", x.away(i, false), 0);
                due("away(i, true)", x.away(i, true), 0);
                due("away(i, true), again", x.away(i, true), 1);
                due("of(i, 4)", x.of(i, 4), 1);
                due("away(i, false)", x.away(i, false), 1);
                due("away(i, false), again", x.away(i, false), 0);
                due("of(i, 4)", x.of(i, 4), 0);
            }
        });
        promise(9, "NONE.", () -> {
            FootmenMatch x = mere(2);
            for (int bad : new int[] {-1, 2, 31, 32, 33, LOW, HIGH}) {
                due("away(" + bad + ", true)", x.away(bad, true), NONE);
                due("away(" + bad + ", false)", x.away(bad, false), NONE);
            }
            due("told(4)", x.told(4), 0);
        });
    }

    private static void told() {
        promise(10, "What 0 STEP, 1 REACH, 2 UNLIKE, 3 SETTLES (-5), 4 which are AWAY (bits).", () -> {
            FootmenMatch x = mere(6);
            x.set(0, 1, 3);
            x.set(1, 1, 4);
            x.pass(2);
            due("told(0)", x.told(0), 2);
            due("told(1)", x.told(1), 9);
            due("told(2)", x.told(2), 2);
            due("told(3), never", x.told(3), MISSING);
            due("told(4), none", x.told(4), 0);
            for (int i = 0; i < 6; i++) {
                x.away(i, true);
                due("told(4)", x.told(4), (2 << i) - 1);
            }
            due("told(2), all AWAY", x.told(2), 0);
            due("told(3), all AWAY", x.told(3), 0);
            x.away(0, false);
            due("told(4)", x.told(4), 0b111110);
        });
        promise(10, "NONE.", () -> {
            for (int bad : noneOf(5)) {
                due("told(" + bad + ")", mere(2).told(bad), NONE);
            }
        });
    }

    private static void steps() {
        promise(11, "n STEPS (0 .. 60) go: STEP.", () -> {
            FootmenMatch x = of(one(0, 0, 0, 1), one(0, 0, 0, 2));
            due("pass(0)", x.pass(0), 0);
            due("of(0, 3)", x.of(0, 3), 1);
            due("pass(1)", x.pass(1), 1);
            due("of(0, 3)", x.of(0, 3), 2);
            due("pass(60)", x.pass(60), 61);
            due("of(0, 3)", x.of(0, 3), 2);
            due("pass(59)", x.pass(59), 120);
            due("of(0, 3)", x.of(0, 3), 1);
        });
        promise(11, "BAD; STATE: it would be above 9999.", () -> {
            FootmenMatch x = of(one(0, 0, 0, 1), one(0, 0, 0, 2));
            for (int bad : new int[] {-1, 61, LOW, HIGH}) {
                due("pass(" + bad + ")", x.pass(bad), BAD);
            }
            goTo(x, 9940);
            due("pass(60), it would be 10000", x.pass(60), STATE);
            due("pass(59), it is 9999", x.pass(59), 9999);
            due("pass(1), it would be 10000", x.pass(1), STATE);
            due("pass(60)", x.pass(60), STATE);
            due("pass(0), it stays 9999", x.pass(0), 9999);
            due("pass(61)", x.pass(61), BAD);
            due("pass(HIGH)", x.pass(HIGH), BAD);
            due("of(0, 3)", x.of(0, 3), 2);
        });
    }

    private static void stepsToCome() {
        promise(12, "ON: what 0 UNLIKE, 10 and p the STATE of FOOTMAN p.", () -> {
            FootmenMatch x = new FootmenMatch();
            for (int i = 0; i < 6; i++) {
                due("on(0, 10 and i), not yet", x.on(0, 10 + i), NONE);
                add(x, one(0, 0, 0, i + 1));
            }
            for (int i = 0; i < 6; i++) {
                due("on(0, 10 and " + i + ")", x.on(0, 10 + i), i + 1);
                due("on(1, 10 and " + i + ")", x.on(1, 10 + i), i == 0 ? 2 : 1);
            }
            due("on(0, 0)", x.on(0, 0), 6);
            due("on(1, 0)", x.on(1, 0), 2);
        });
        promise(12, "NONE; BAD: n.", () -> {
            FootmenMatch x = mere(2);
            for (int bad : new int[] {-1, 61, LOW, HIGH}) {
                due("on(" + bad + ", 0)", x.on(bad, 0), BAD);
                due("on(" + bad + ", 11)", x.on(bad, 11), BAD);
                due("on(" + bad + ", 12)", x.on(bad, 12), NONE);
            }
            for (int bad : new int[] {-1, 1, 9, 12, 16, LOW, LOW + 9, LOW + 10, HIGH}) {
                due("on(0, " + bad + ")", x.on(0, bad), NONE);
            }
        });
        promise(13, "STEER; -5.", () -> {
            FootmenMatch x = of(one(0, 0, 0, 1), one(0, 0, 0, 2));
            due("steer(0, 0)", x.steer(0, 0), 0);
            due("steer(1, 9)", x.steer(1, 9), 19);
            due("steer(1, 2), none", x.steer(1, 2), MISSING);
        });
        promise(13, "NONE: man, state.", () -> {
            FootmenMatch x = mere(2);
            for (int bad : noneOf(2)) {
                due("steer(" + bad + ", 0)", x.steer(bad, 0), NONE);
            }
            for (int bad : NO_DIGIT) {
                due("steer(0, " + bad + ")", x.steer(0, bad), NONE);
            }
        });
        promise(14, "TELLS (bits).", () -> {
            FootmenMatch x = mere(6);
            due("tells(0, 0)", x.tells(0, 0), 1);
            due("tells(5, 0)", x.tells(5, 0), 1 << 5);
            due("tells(0, 1), all others follow it", x.tells(0, 1), 0b111110);
            due("tells(5, 1), nobody does", x.tells(5, 1), 0);
        });
        promise(14, "NONE; BAD: n.", () -> {
            FootmenMatch x = mere(2);
            for (int bad : noneOf(2)) {
                due("tells(" + bad + ", 0)", x.tells(bad, 0), NONE);
                due("tells(" + bad + ", 21)", x.tells(bad, 21), NONE);
            }
            for (int bad : new int[] {-1, 21, LOW, HIGH}) {
                due("tells(0, " + bad + ")", x.tells(0, bad), BAD);
            }
        });
        promise(15, "ROOMED: k -1 how many, else whose ROOM the k-th has (-5: there are fewer).", () -> {
            FootmenMatch x = new FootmenMatch();
            for (int men = 0; men <= 6; men++) {
                due("roomed(-1)", x.roomed(-1), Math.min(men, 1));
                for (int k = 0; k < 6; k++) {
                    due("roomed(" + k + "), of " + men, x.roomed(k), k < men ? k : MISSING);
                }
                x.man(0, 0, 0, 0);
            }
        });
        promise(15, "NONE: k (-1 .. 5).", () -> {
            for (int men : new int[] {0, 6}) {
                for (int bad : new int[] {-2, 6, LOW, HIGH}) {
                    due("roomed(" + bad + ")", mere(men).roomed(bad), NONE);
                }
            }
        });
    }

    private static void seen() {
        promise(16, "(man -1: none then, 0, whatever the others are)", () -> {
            FootmenMatch x = mere(1);
            due("see(-1, 0, 0), none yet", x.see(-1, 0, 0), 0);
            due("see()", x.see(0, 0, 9), 1);
            due("see()", x.see(0, 0, 9), 2);
            due("states(0)", x.states(0), 1 << 9);
            due("see(-1, LOW, HIGH)", x.see(-1, LOW, HIGH), 0);
            due("count(2)", x.count(2), 0);
            due("states(0)", x.states(0), 1023);
            due("see()", x.see(0, 0, 8), 1);
            due("states(0)", x.states(0), 1 << 8);
            due("see(-1, 21, -1)", x.see(-1, 21, -1), 0);
            due("see(-1, 0, 0), nobody", new FootmenMatch().see(-1, 0, 0), 0);
        });
        promise(16, "NONE: man, state; BAD: n; FULL: 6.", () -> {
            FootmenMatch x = mere(2);
            for (int many = 0; many < 2; many++) {
                for (int bad : new int[] {-2, 2, LOW, HIGH}) {
                    due("see(" + bad + ", 21, 0)", x.see(bad, 21, 0), NONE);
                    due("see(" + bad + ", 0, 0)", x.see(bad, 0, 0), NONE);
                }
                for (int bad : NO_DIGIT) {
                    due("see(0, 21, " + bad + ")", x.see(0, 21, bad), NONE);
                    due("see(0, 0, " + bad + ")", x.see(0, 0, bad), NONE);
                }
                for (int bad : new int[] {-1, 21, LOW, HIGH}) {
                    due("see(0, " + bad + ", 0)", x.see(0, bad, 0), BAD);
                }
                for (int i = 1; i <= 6; i++) {
                    due("see()", x.see(0, i % 2 * 20, 0), many == 0 ? i : FULL);
                }
            }
            due("count(2)", x.count(2), 6);
        });
        promise(17, "STATES (bits).", () -> {
            FootmenMatch x = mere(1);
            due("states(0), all", x.states(0), 1023);
            for (int state = 0; state < 10; state++) {
                x.see(-1, 0, 0);
                x.see(0, 20, state);
                due("states(0), " + state, x.states(0), 1 << state);
            }
            x.see(0, 0, 8);
            due("states(0), none", x.states(0), 0);
        });
        promise(17, "NONE.", () -> {
            for (int bad : noneOf(2)) {
                due("states(" + bad + ")", mere(2).states(bad), NONE);
            }
        });
        promise(18, "WHERE (bits).", () -> {
            FootmenMatch x = of(one(0, 0, 0, 1), one(0, 0, 0, 4));
            due("where(0), all", x.where(0), 1023);
            due("house()", read(x, "reach 0"), 0);
            x.see(0, 1, 4);
            for (int room = 0; room < 10; room++) {
                x.set(1, 0, room);
                due("where(0), " + room, x.where(0), 1 << room);
            }
            x.away(1, true);
            due("where(0), none", x.where(0), 0);
        });
        promise(18, "NONE.", () -> {
            for (int bad : noneOf(2)) {
                due("where(" + bad + ")", mere(2).where(bad), NONE);
            }
        });
        promise(19, "FIRM: what 0 how many, 1 the least; -5.", () -> {
            FootmenMatch x = of(one(5, 0, 0, 1), one(0, 0, 9, 4));
            due("firm(0, 0), all", x.firm(0, 0), 10);
            due("firm(0, 1), 0", x.firm(0, 1), 0);
            x.see(0, 1, 4);
            due("firm(0, 0), 9 alone", x.firm(0, 0), 1);
            due("firm(0, 1), 9", x.firm(0, 1), 9);
            x.see(0, 0, 4);
            due("firm(0, 0), none", x.firm(0, 0), 0);
            due("firm(0, 1), none", x.firm(0, 1), MISSING);
        });
        promise(19, "NONE.", () -> {
            for (int bad : noneOf(2)) {
                due("firm(" + bad + ", 0)", mere(2).firm(bad, 0), NONE);
                due("firm(0, " + bad + ")", mere(2).firm(0, bad), NONE);
            }
        });
    }

    private static void odds() {
        promise(20, "NO: man, other, state, n, part.", () -> {
            FootmenMatch x = mere(2);
            for (int bad : noneOf(2)) {
                due("odds, man " + bad, x.odds(bad, 0, 0, 0, 0), NO);
                due("odds, other " + bad, x.odds(0, bad, 0, 0, 0), NO);
                due("odds, part " + bad, x.odds(0, 0, 0, 0, bad), NO);
            }
            for (int bad : NO_DIGIT) {
                due("odds, state " + bad, x.odds(0, 0, bad, 0, 0), NO);
            }
            for (int bad : new int[] {-1, 61, LOW, HIGH}) {
                due("odds, n " + bad, x.odds(0, 0, 0, bad, 1), NO);
            }
            due("odds(1, 1, 9, 60, 0)", x.odds(1, 1, 9, 60, 0), 1);
            due("odds(0, 0, 0, 0, 1)", x.odds(0, 0, 0, 0, 1), 10);
        });
        promise(21, "NO: part, there are none.", () -> {
            for (int part = 0; part < 2; part++) {
                FootmenMatch x = new FootmenMatch();
                due("mean, nobody", x.mean(part), NO);
                add(x, one(0, 0, 0, 0));
                due("mean of 0", x.mean(part), part);
                x.away(0, true);
                due("mean, AWAY", x.mean(part), NO);
            }
            for (int bad : noneOf(2)) {
                due("mean(" + bad + ")", mere(2).mean(bad), NO);
            }
        });
    }

    private static void plans() {
        promise(22, "A row comes to the PLAN: how many there are (what -1: none then, 0, whatever the other is).", () -> {
            FootmenMatch x = of(one(0, 0, 0, 1), one(0, 0, 0, 3));
            due("plan(-1, LOW), none yet", x.plan(-1, LOW), 0);
            due("plan(0, 0)", x.plan(0, 0), 1);
            due("plan(1, 0)", x.plan(1, 0), 2);
            due("done(0)", x.done(0), 1);
            due("plan(-1, HIGH)", x.plan(-1, HIGH), 0);
            due("count(3)", x.count(3), 0);
            due("done(0), none", x.done(0), 2);
            due("plan(1, 0)", x.plan(1, 0), 1);
        });
        promise(22, "NONE: what, FOOTMAN (by 1, 2, 3; by 3 n below 0, too); FULL: 8.", () -> {
            FootmenMatch x = mere(2);
            for (int many = 0; many < 2; many++) {
                for (int bad : new int[] {-2, 4, LOW, HIGH}) {
                    due("plan(" + bad + ", 0)", x.plan(bad, 0), NONE);
                }
                for (int bad : noneOf(2)) {
                    due("plan(1, " + bad + ")", x.plan(1, bad), NONE);
                    due("plan(2, " + bad + ")", x.plan(2, bad), NONE);
                }
                for (int bad : new int[] {-1, -9, -10, 20, 60, LOW, HIGH}) {
                    due("plan(3, " + bad + ")", x.plan(3, bad), NONE);
                }
                int[][] rows = {{0, 9}, {1, 0}, {1, 1}, {2, 0}, {2, 1}, {3, 0}, {3, 19}, {0, -9}};
                for (int i = 0; i < 8; i++) {
                    due("plan()", x.plan(rows[i][0], rows[i][1]), many == 0 ? i + 1 : FULL);
                }
            }
            due("plan(0, 0), nobody", new FootmenMatch().plan(0, 0), 1);
            due("plan(3, 0), nobody", new FootmenMatch().plan(3, 0), NONE);
        });
        promise(23, "DONE: what 0 UNLIKE, 1 STATES of all.", () -> {
            FootmenMatch x = of(one(0, 0, 0, 1), one(0, 0, 0, 3));
            due("done(0)", x.done(0), 2);
            due("done(1)", x.done(1), 4);
            due("plan(1, 1)", x.plan(1, 1), 1);
            due("done(0)", x.done(0), 1);
            due("done(1)", x.done(1), 4);
        });
        promise(23, "NONE.", () -> {
            for (int bad : noneOf(2)) {
                due("done(" + bad + ")", mere(2).done(bad), NONE);
            }
        });
    }

    private static void books() {
        promise(24, "A row comes to BOOK: how many there are (man -1: none then, 0, whatever the other is).", () -> {
            FootmenMatch x = mere(1);
            due("book(-1, LOW), none yet", x.book(-1, LOW), 0);
            due("book(0, 0)", x.book(0, 0), 1);
            due("book(0, 9)", x.book(0, 9), 2);
            due("looked()", x.looked(), 1);
            due("book(-1, HIGH)", x.book(-1, HIGH), 0);
            due("count(4)", x.count(4), 0);
            due("looked()", x.looked(), MISSING);
            due("book(0, 9)", x.book(0, 9), 1);
            due("looked()", x.looked(), 0);
        });
        promise(24, "NONE: man, state; FULL: 8.", () -> {
            FootmenMatch x = mere(2);
            for (int many = 0; many < 2; many++) {
                for (int bad : new int[] {-2, 2, LOW, HIGH}) {
                    due("book(" + bad + ", 0)", x.book(bad, 0), NONE);
                }
                for (int bad : NO_DIGIT) {
                    due("book(0, " + bad + ")", x.book(0, bad), NONE);
                }
                for (int i = 1; i <= 8; i++) {
                    due("book()", x.book(i % 2, i), many == 0 ? i : FULL);
                }
            }
            due("count(4)", x.count(4), 8);
        });
        promise(25, "LOOKED at; -5.", () -> {
            FootmenMatch x = mere(2);
            due("looked(), no BOOK", x.looked(), MISSING);
            x.book(0, 0);
            x.book(1, 0);
            due("looked(), all as told", x.looked(), MISSING);
            x.set(1, 1, 1);
            due("looked()", x.looked(), 1);
            x.set(0, 1, 1);
            due("looked(), the first", x.looked(), 0);
        });
    }

    private static void acts() {
        promise(26, "An ACT (0 bows, 1 serves, 2 weeps) of a FOOTMAN with x.", () -> {
            FootmenMatch x = of(one(0, 3, 0, 0), one(1, 4, 0, 0), one(2, 5, 0, 0), one(3, 6, 0, 0), one(4, 7, 0, 0),
                    one(5, 8, 0, 0));
            int[][] want = {{10, 7, 14}, {31, 27, 54}, {12, -7, -14}, {13, 7, 9}, {34, 27, 58}, {10, -2, -4}};
            for (int man = 0; man < 6; man++) {
                for (int act = 0; act < 3; act++) {
                    due("act(" + man + ", " + act + ", 10)", x.act(man, act, 10), want[man][act]);
                }
            }
            x = of(one(0, 0, 0, 0), one(6, 9, 0, 0));
            due("TOLD bows", x.act(1, 0, 10), 11);
            due("TOLD serves", x.act(1, 1, 10), 11);
            due("TOLD weeps", x.act(1, 2, 10), 22 ^ 7);
            x.away(1, true);
            due("TOLD bows, AWAY", x.act(1, 0, 10), 11);
        });
        promise(26, "0, and no TRACE then: no such FOOTMAN, act.", () -> {
            FootmenMatch x = mere(2);
            for (int bad : noneOf(2)) {
                due("act(1, 2, 5)", x.act(1, 2, 5), 12);
                due("count(6)", x.count(6), 3);
                due("act(" + bad + ", 0, 5)", x.act(bad, 0, 5), 0);
                due("trace(0)", x.trace(0), NONE);
                due("count(6)", x.count(6), 0);
            }
            for (int bad : noneOf(3)) {
                due("act(1, 2, 5)", x.act(1, 2, 5), 12);
                due("count(6)", x.count(6), 3);
                due("act(1, " + bad + ", 5)", x.act(1, bad, 5), 0);
                due("trace(0)", x.trace(0), NONE);
                due("count(6)", x.count(6), 0);
            }
        });
        promise(27, "THE TRACE's i-th body.", () -> {
            FootmenMatch x = of(one(4, 0, 0, 0));
            x.act(0, 2, 0);
            int[] bodies = {41, 3, 2, 11, 1, 11, 1};
            for (int i = 0; i < bodies.length; i++) {
                due("trace(" + i + ")", x.trace(i), bodies[i]);
            }
            x.set(0, 1, 5);
            x.pass(1);
            due("trace(6), behind other calls", x.trace(6), 1);
        });
        promise(27, "NONE.", () -> {
            FootmenMatch x = mere(1);
            due("trace(0), no act", x.trace(0), NONE);
            x.act(0, 2, 0);
            due("trace(2), the last", x.trace(2), 1);
            for (int bad : new int[] {-1, 3, 19, 20, LOW, HIGH}) {
                due("trace(" + bad + ")", x.trace(bad), NONE);
            }
        });
        promise(28, "A FOOTMAN taken for a KIND k (0 .. 6), or one under that: its v.", () -> {
            int[] above = {-1, 0, 0, 0, 1, 2, 3};
            for (int kind = 0; kind < 7; kind++) {
                FootmenMatch x = of(one(0, 1, 0, 0), one(kind, 0, 0, 0), one(kind, 9, 0, 0));
                for (int k = kind; k >= 0; k = above[k]) {
                    due("as(1, " + k + "), KIND " + kind, x.as(1, k), 0);
                    due("as(2, " + k + "), KIND " + kind, x.as(2, k), 9);
                }
            }
        });
        promise(28, "NONE: footman, k; -6: it is of another KIND.", () -> {
            FootmenMatch x = of(one(0, 1, 0, 0), one(4, 2, 0, 0));
            for (int k = 1; k < 7; k++) {
                due("as(0, " + k + ")", x.as(0, k), -6);
                due("as(1, " + k + ")", x.as(1, k), k == 1 || k == 4 ? 2 : -6);
            }
            for (int bad : noneOf(2)) {
                due("as(" + bad + ", 1)", x.as(bad, 1), NONE);
            }
            for (int bad : noneOf(7)) {
                due("as(0, " + bad + ")", x.as(0, bad), NONE);
            }
        });
    }

    private static void images() {
        promise(29, "THE IMAGE is taken: how many FOOTMANS there are.", () -> {
            for (int men = 0; men <= 6; men++) {
                FootmenMatch x = mere(men);
                due("image()", x.image(), men);
                due("image(), again", x.image(), men);
                x.pass(1);
                x.man(0, 0, 0, 0);
                due("undo()", x.undo(), men);
                due("told(0)", x.told(0), 0);
                due("count(0)", x.count(0), men);
            }
            FootmenMatch x = mere(1);
            x.image();
            x.set(0, 1, 5);
            due("image(), a later one", x.image(), 1);
            x.set(0, 1, 6);
            x.undo();
            due("of(0, 3), as the later one", x.of(0, 3), 5);
        });
        promise(30, "All is as THE IMAGE: how many FOOTMANS.", () -> {
            FootmenMatch x = mere(0);
            due("image(), nobody", x.image(), 0);
            add(x, one(6, 9, 9, 9));
            x.row(0, 3, 9);
            read(x, "reach 1");
            due("undo()", x.undo(), 0);
            due("count(0)", x.count(0), 0);
            due("count(1)", x.count(1), 0);
            due("told(1), no HOUSE holds", x.told(1), 9);
            for (int i = 0; i < 6; i++) {
                add(x, one(6, 9 - i, i, i + 1));
            }
            for (int i = 0; i < 5; i++) {
                due("house()", read(x, "reach " + i + ";heed " + i + " p=0"), i);
            }
            x.row(5, 3, 4);
            x.away(5, true);
            due("image(), all of them", x.image(), 6);
            x.row(5, 3, 7);
            x.away(5, false);
            x.set(5, 0, 0);
            x.set(5, 1, 0);
            for (int again = 0; again < 2; again++) {
                due("undo(), THE IMAGE stays", x.undo(), 6);
                int[] last = {6, 4, 5, 6, 1};
                for (int what = 0; what < last.length; what++) {
                    due("of(5, " + what + ")", x.of(5, what), last[what]);
                }
                due("row(5, 3, 8)", x.row(5, 3, 8), 4);
                due("told(1)", x.told(1), 4);
                due("house(), FULL", x.house(), FULL);
                x.pass(60);
            }
        });
        promise(30, "STATE: there is none.", () -> {
            FootmenMatch x = mere(2);
            due("undo()", x.undo(), STATE);
            due("count(0)", x.count(0), 2);
            due("image()", x.image(), 2);
            due("undo()", x.undo(), 2);
            due("undo(), again", x.undo(), 2);
        });
        promise(31, "0 FOOTMEN, 1 HOUSES, 2 of SEEN, 3 of the PLAN, 4 rows of BOOK, 5 signs of THE TAPE, 6 bodies that ran in "
                + "the latest act() (all, kept or not).", () -> {
            FootmenMatch x = of(one(4, 0, 0, 0));
            for (int i = 1; i <= 9; i++) {
                x.man(4, 0, 0, 0);
                read(x, "reach 1");
                x.see(0, 0, 0);
                x.plan(0, 0);
                x.book(0, 0);
            }
            for (int i = 0; i < 100; i++) {
                x.feed('x');
            }
            x.act(0, 2, 0);
            int[] most = {6, 5, 6, 8, 8, 100, 7};
            for (int what = 0; what < most.length; what++) {
                due("count(" + what + ")", x.count(what), most[what]);
            }
        });
        promise(31, "NONE.", () -> {
            for (int bad : noneOf(7)) {
                due("count(" + bad + ")", mere(2).count(bad), NONE);
            }
        });
    }
}
