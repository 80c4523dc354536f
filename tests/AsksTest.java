/** The sentences of parts 2 and 3 of the terms that name an edge, a test for each: asks, acts, refusals. */
public final class AsksTest extends Sentences {
    public static void main(String[] args) {
        asks();
        steering();
        rooming();
        seeing();
        odds();
        plans();
        acts();
        bodies();
        traces();
        image();
        refusals();
        end();
    }

    /** Three of different KINDS, one AWAY, with all that there may be of SEEN, PLAN, BOOK, HOUSES, an IMAGE. */
    private static FootmenMatch furnished() {
        FootmenMatch x = of(one(6, 3, 0, 4), one(4, 8, 2, 6));
        x.image();
        add(x, one(5, 5, 7, 1));
        x.row(0, 2, 7);
        due("house()", read(x, "reach 8;heed 3 s>2"), 0);
        due("house()", read(x, "heed 2 k=6"), 1);
        x.pass(3);
        x.away(2, true);
        due("see()", x.see(0, 2, 3), 1);
        due("see()", x.see(1, 0, 7), 2);
        due("plan()", x.plan(2, 2), 1);
        due("plan()", x.plan(0, 0), 2);
        due("plan()", x.plan(3, 15), 3);
        due("book()", x.book(1, x.of(1, 3)), 1);
        due("book()", x.book(2, 9), 2);
        write(x, "reach 7");
        due("act()", x.act(1, 2, 5), x.act(1, 2, 5));
        return x;
    }

    private static void asks() {
        term(2, "goes on from how all is (STEP beyond 9999, too)", () -> {
            FootmenMatch x = of(one(2, 0, 9, 1), one(1, 0, 9, 9), one(6, 0, 0, 1), one(4, 0, 0, 3));
            due("house()", read(x, "reach 0;shun 99 t=1&k=4;heed 5 q=1"), 0);
            x.row(2, 3, 2);
            x.row(2, 0, 5);
            goTo(x, 9999);
            x.set(0, 1, 1);
            x.set(2, 1, 1);
            x.set(3, 1, 3);
            due("pass(1)", x.pass(1), STATE);
            due("on(1, 10), LENT by STEP 9999", x.on(1, 10), 1);
            due("on(2, 10), LENT by STEP 10000", x.on(2, 10), 9);
            due("on(1, 12), TOLD by STEP 9999", x.on(1, 12), (1 + 3) / 2 + 2);
            due("on(1, 13), BEADLE by STEP 9999", x.on(1, 13), 3);
            due("on(2, 12), TOLD by STEP 10000", x.on(2, 12), (4 + 3) / 2 + 5);
            due("on(2, 13), BEADLE by STEP 10000", x.on(2, 13), 5);
            due("on(3, 13), no LEADER by STEP 10001", x.on(3, 13), 5);
            due("on(60, 11)", x.on(60, 11), 9);
            due("tells(1, 1)", x.tells(1, 1), 2);
            due("tells(1, 2)", x.tells(1, 2), 3);
            due("odds(1, 0, 9, 2, 0)", x.odds(1, 0, 9, 2, 0), 1);
            x.see(0, 2, 9);
            due("states(1)", x.states(1), 1 << 9);
            x.plan(0, 0);
            x.plan(0, 0);
            due("done(1)", x.done(1), 9 + 9 + 8 + 5);
            due("told(0)", x.told(0), 9999);
        });
        term(2, "and changes nothing", () -> {
            FootmenMatch x = furnished();
            String before = portrait(x);
            x.on(60, 0);
            x.on(60, 12);
            x.told(3);
            x.pull(0, 1);
            for (int i = 0; i < 3; i++) {
                x.steer(i, 9);
                x.tells(i, 20);
                x.roomed(i - 1);
                x.states(i);
                x.where(i);
                x.firm(i, 1);
                x.odds(i, 0, 3, 60, 0);
                x.as(i, 0);
                x.of(i, 6);
            }
            x.mean(0);
            x.done(0);
            x.looked();
            same("all behind the asks", portrait(x), before);
            due("trace(0)", x.trace(0), 41);
            due("count(6)", x.count(6), 7);
            due("house(), THE TAPE as it was", x.house(), 2);
            due("told(1)", x.told(1), 7);
        });
        term(2, "ON n STEPS (0 .. 60): STATE of one; UNLIKE.", () -> {
            FootmenMatch x = of(one(0, 0, 0, 1), one(0, 0, 0, 2), one(3, 0, 9, 9));
            x.away(2, true);
            due("on(0, 10)", x.on(0, 10), 1);
            due("on(0, 0)", x.on(0, 0), 2);
            due("on(59, 10)", x.on(59, 10), 2);
            due("on(60, 10)", x.on(60, 10), 1);
            due("on(60, 11)", x.on(60, 11), 2);
            due("on(60, 12), AWAY", x.on(60, 12), 9);
            due("on(60, 0)", x.on(60, 0), 2);
            due("on(61, 0)", x.on(61, 0), BAD);
            due("on(-1, 0)", x.on(-1, 0), BAD);
            due("on(0, 0), nobody", mere(0).on(0, 0), 0);
            due("on(60, 0), nobody", mere(0).on(60, 0), 0);
        });
        term(2, "SETTLES: the fewest STEPS (0 .. 60) behind which UNLIKE is 1 or less (-5: not by then).", () -> {
            due("told(3), nobody", mere(0).told(3), 0);
            due("told(3), one", mere(1).told(3), 0);
            FootmenMatch x = of(one(0, 0, 0, 1), one(0, 0, 0, 2));
            due("told(3), never", x.told(3), MISSING);
            x.set(1, 1, 1);
            due("told(3), now", x.told(3), 0);
            x.set(1, 1, 2);
            x.away(0, true);
            due("told(3), one is AWAY", x.told(3), 0);
            x.away(1, true);
            due("told(3), both are", x.told(3), 0);
            x = of(one(4, 0, 0, 2), one(4, 0, 0, 2), one(1, 0, 0, 9));
            due("house(), two climb by 1 every 10 STEPS", read(x, "shun 99 q=2|k=4&t=5"), 0);
            due("told(3), behind 61", x.told(3), MISSING);
            x.pass(1);
            due("told(3), behind 60", x.told(3), 60);
            x.pass(1);
            due("told(3), behind 59", x.told(3), 59);
            x = of(one(6, 0, 0, 4), one(6, 0, 0, 5));
            x.row(0, 1, 1);
            due("told(3), alike behind 1 alone", x.told(3), 1);
            due("on(1, 0)", x.on(1, 0), 1);
            due("on(2, 0)", x.on(2, 0), 2);
        });
    }

    private static void steering() {
        term(2, "the one of FOOTMEN, not AWAY", () -> {
            FootmenMatch x = of(one(0, 0, 0, 1), one(0, 0, 0, 2));
            due("steer(1, 5)", x.steer(1, 5), 15);
            x.away(1, true);
            due("steer(1, 5), AWAY", x.steer(1, 5), MISSING);
            due("steer(0, 5), not AWAY", x.steer(0, 5), 5);
            x.away(1, false);
            due("steer(1, 5), back", x.steer(1, 5), 15);
        });
        term(2, "the told one is in the told STATE behind the fewest STEPS (0 .. 20)", () -> {
            FootmenMatch x = of(one(0, 0, 0, 1), one(0, 0, 0, 2));
            due("steer(1, 7), itself by 0, not 0 by 1", x.steer(1, 7), 17);
            due("steer(0, 7), itself by 0", x.steer(0, 7), 7);
        });
        term(2, "if behind fewer than as it is", () -> {
            FootmenMatch x = of(one(0, 0, 0, 1), one(0, 0, 0, 2));
            due("steer(1, 2), behind 0 as it is", x.steer(1, 2), MISSING);
            due("steer(1, 1), behind 1 as it is", x.steer(1, 1), 11);
            due("steer(0, 1), behind 0 as it is", x.steer(0, 1), MISSING);
        });
        term(2, "(10 times the one, and the STATE; of several the first by these; -5: none)", () -> {
            FootmenMatch x = mere(6);
            due("steer(5, 9)", x.steer(5, 9), 59);
            due("steer(5, 1)", x.steer(5, 1), 51);
            due("steer(0, 1)", x.steer(0, 1), 1);
            due("steer(0, 0), none", x.steer(0, 0), MISSING);
            x.set(0, 1, 5);
            due("steer(0, 0)", x.steer(0, 0), 0);
        });
        term(2, "TELLS of one and n STEPS (0 .. 20)", () -> {
            FootmenMatch x = of(one(0, 0, 0, 1), one(0, 0, 0, 2), one(0, 0, 9, 3));
            due("tells(0, 0), itself", x.tells(0, 0), 1);
            due("tells(2, 0), itself", x.tells(2, 0), 4);
            due("tells(0, 1)", x.tells(0, 1), 2 | 4);
            due("tells(0, 19)", x.tells(0, 19), 2 | 4);
            due("tells(0, 20)", x.tells(0, 20), 1);
            due("tells(2, 20), nobody follows it", x.tells(2, 20), 0);
            due("tells(0, 21)", x.tells(0, 21), BAD);
            due("tells(0, -1)", x.tells(0, -1), BAD);
        });
        term(2, "whose STATE behind n is not the same whatever of 0 .. 9 the STATE of that one is now", () -> {
            FootmenMatch x = of(one(0, 0, 0, 4), one(1, 0, 0, 8));
            due("tells(0, 1), 9 alone is more", x.tells(0, 1), 2);
            x.set(1, 1, 9);
            due("tells(0, 1), nothing is more", x.tells(0, 1), 0);
            x = of(one(0, 0, 9, 4), one(0, 0, 5, 5), one(0, 0, 4, 5));
            due("house(), heeded by 0 alone", read(x, "heed 50 s=0"), 0);
            due("tells(0, 1), by 0 it leads both", x.tells(0, 1), 2 | 4);
            due("house(), by 5 alone", read(x, "heed 50 s=5&q=0"), 1);
            due("tells(0, 1), the same by another one", x.tells(0, 1), 0);
            x.set(0, 1, 5);
            due("tells(0, 1), whatever it is as it is", x.tells(0, 1), 0);
            x.away(0, true);
            due("tells(0, 20), AWAY it is itself", x.tells(0, 20), 1);
        });
    }

    /** Five PIOUS ones in ROOMS 0 2 4 6 8, each heeding its neighbours: the 9 goes a ROOM on by a STEP. */
    private static FootmenMatch neighbours(int nine) {
        FootmenMatch x = new FootmenMatch();
        for (int i = 0; i < 5; i++) {
            add(x, one(1, 0, 2 * i, i == nine ? 9 : 0));
        }
        due("house()", read(x, "reach 2;heed 50 s=9"), 0);
        return x;
    }

    private static void whose(FootmenMatch x, int least, int... want) {
        due("roomed(-1)", x.roomed(-1), least);
        for (int k = 0; k < 6; k++) {
            due("roomed(" + k + ")", x.roomed(k), k < want.length ? want[k] : MISSING);
        }
    }

    /** Each other one follows 0 if it is as far from 0 as it would be by this way to give the ROOMS, else nobody. */
    private static void onlyWay(int... way) {
        int[] rooms = {9, 7, 4, 3, 1, 0};
        FootmenMatch x = new FootmenMatch();
        StringBuilder text = new StringBuilder("shun 10 t<10;heed 19 ");
        for (int i = 0; i < 6; i++) {
            add(x, one(0, 0, rooms[i], i));
            int far = Math.abs(rooms[way[i]] - rooms[way[0]]);
            text.append(i < 2 ? "" : "|").append(i == 0 ? "" : "p=" + i + "&q=0&d=" + far);
        }
        due("house()", read(x, text.toString()), 0);
        whose(x, 1, way);
    }

    private static void rooming() {
        term(2, "of all ways to give their ROOMS, as they are, anew to all FOOTMEN, one each", () -> {
            whose(mere(0), 0);
            whose(mere(1), 1, 0);
            onlyWay(0, 1, 2, 3, 4, 5);
            onlyWay(0, 1, 2, 3, 5, 4);
            onlyWay(0, 3, 5, 1, 4, 2);
            onlyWay(5, 0, 1, 2, 3, 4);
            onlyWay(5, 4, 3, 2, 0, 1);
            onlyWay(5, 4, 3, 2, 1, 0);
            FootmenMatch x = neighbours(0);
            add(x, one(0, 0, 4, 0));
            x.away(5, true);
            whose(x, 1, 0, 1, 2, 3, 5, 4);
            due("of(4, 2), nothing is changed", x.of(4, 2), 8);
        });
        term(2, "to give their ROOMS, as they are", () -> {
            FootmenMatch x = of(one(6, 0, 0, 1));
            due("roomed(-1), one", x.roomed(-1), 1);
            add(x, one(6, 0, 0, 1));
            due("roomed(1), behind man()", x.roomed(1), 1);
            x.row(0, 2, 5);
            due("roomed(-1), behind row()", x.roomed(-1), 2);
            x.pass(3);
            due("roomed(-1), behind pass()", x.roomed(-1), 1);
            x.image();
            x.away(0, true);
            x.set(0, 1, 9);
            due("roomed(-1), behind away()", x.roomed(-1), 1);
            x.away(0, false);
            x.away(1, true);
            x.away(1, false);
            due("roomed(-1), behind away()", x.roomed(-1), 1);
            due("house()", read(x, "reach 0;shun 10 p=0"), 0);
            due("roomed(-1), behind house()", x.roomed(-1), 2);
            x.set(1, 1, 9);
            due("roomed(-1), behind set()", x.roomed(-1), 1);
            x.set(0, 1, 0);
            due("roomed(-1), behind set()", x.roomed(-1), 2);
            x.undo();
            due("roomed(-1), behind undo()", x.roomed(-1), 1);
        });
        term(2, "that by which UNLIKE behind 3 STEPS is least", () -> {
            for (int nine = 0; nine < 5; nine++) {
                due("roomed(-1)", neighbours(nine).roomed(-1), 1);
            }
            FootmenMatch x = neighbours(0);
            x.away(2, true);
            due("on(3, 0), 2 is AWAY", x.on(3, 0), 2);
            due("roomed(-1), 2 in a ROOM at the end", x.roomed(-1), 1);
            x.set(1, 0, 3);
            x.set(2, 0, 6);
            x.set(3, 0, 9);
            x.set(4, 0, 9);
            due("roomed(-1), two ROOMS at most within REACH", x.roomed(-1), 2);
            for (int i = 0; i < 5; i++) {
                x.away(i, true);
            }
            whose(x, 0, 0, 1, 2, 3, 4);
            x = mere(6);
            for (int i = 0; i < 6; i++) {
                x.set(i, 1, i);
            }
            due("house()", read(x, "shun 10 t<10"), 0);
            whose(x, 6, 0, 1, 2, 3, 4, 5);
        });
        term(2, "(of several the first as a row of whose ROOM each has, by FOOTMEN)", () -> {
            whose(mere(6), 1, 0, 1, 2, 3, 4, 5);
            whose(neighbours(0), 1, 1, 0, 2, 3, 4);
            whose(neighbours(1), 1, 0, 1, 2, 3, 4);
            whose(neighbours(2), 1, 0, 1, 2, 3, 4);
            whose(neighbours(3), 1, 0, 1, 2, 3, 4);
            whose(neighbours(4), 1, 0, 1, 2, 4, 3);
            FootmenMatch x = neighbours(0);
            x.set(1, 0, 0);
            whose(x, 2, 0, 1, 2, 3, 4);
        });
    }

    private static void seeing() {
        term(2, "SEEN told by hand: one of FOOTMEN, n STEPS (0 .. 20) from now, its STATE then; 6 at most.", () -> {
            FootmenMatch x = of(one(0, 0, 0, 1), one(0, 0, 0, 2));
            due("see(0, -1, 0)", x.see(0, -1, 0), BAD);
            due("see(0, 21, 0)", x.see(0, 21, 0), BAD);
            due("see(0, 0, 1)", x.see(0, 0, 1), 1);
            due("see(0, 20, 1)", x.see(0, 20, 1), 2);
            due("see(1, 19, 1)", x.see(1, 19, 1), 3);
            due("states(0)", x.states(0), 1 << 1);
            due("see(1, 0, 2)", x.see(1, 0, 2), 4);
            due("see(1, 20, 2)", x.see(1, 20, 2), 5);
            due("see(0, 1, 2)", x.see(0, 1, 2), 6);
            due("see(0, 1, 2), the seventh", x.see(0, 1, 2), FULL);
            due("states(0)", x.states(0), 1 << 1);
            due("states(1)", x.states(1), 1 << 2);
            x.pass(1);
            due("states(0), from now on", x.states(0), 0);
            x.pass(1);
            due("states(0), as it was", x.states(0), 1 << 1);
        });
        term(2, "STATES of one: those, as bits, by which, were it in that now, all of SEEN is so.", () -> {
            FootmenMatch x = of(one(1, 0, 0, 1), one(0, 0, 0, 4));
            due("states(0), nothing SEEN", x.states(0), 1023);
            x.see(0, 1, 9);
            due("states(0), 9", x.states(0), 1 << 9);
            x.see(0, 1, 8);
            due("states(0), both can not be", x.states(0), 0);
            x.see(-1, 0, 0);
            x.see(0, 0, 0);
            due("states(0), 0", x.states(0), 1);
            due("states(1), 0 is in 1", x.states(1), 0);
            x.see(-1, 0, 0);
            x.see(0, 1, 4);
            due("states(0), 4 or less", x.states(0), 0b11111);
            for (int i = 2; i < 6; i++) {
                x.see(1, 0, 4);
            }
            x.see(0, 0, 2);
            due("states(0), by the sixth", x.states(0), 1 << 2);
        });
        term(2, "WHERE of one: those ROOMS, as bits, by which, were it there now, all of SEEN is so.", () -> {
            FootmenMatch x = of(one(0, 0, 5, 1), one(0, 0, 0, 4), one(0, 0, 9, 7));
            due("where(0), nothing SEEN", x.where(0), 1023);
            x.see(0, 1, 4);
            due("where(0), ROOMS 0 .. 4", x.where(0), 0b11111);
            x.see(-1, 0, 0);
            x.see(0, 1, 7);
            due("where(0), ROOMS 5 .. 9", x.where(0), 0b1111100000);
            x.see(0, 0, 9);
            due("where(0), nowhere", x.where(0), 0);
            x.see(-1, 0, 0);
            x.see(1, 1, 7);
            due("where(2), nearer to 1 than 0 is", x.where(2), 0b11111);
            x.see(0, 1, 7);
            due("where(2), and nearer to 0 than 1 is", x.where(2), 0b11110);
            due("house()", read(x, "reach 0"), 0);
            x.see(-1, 0, 0);
            x.see(0, 1, 7);
            due("where(0), ROOM 9 alone", x.where(0), 1 << 9);
        });
        term(2, "FIRM of one: how many numbers v (0 .. 9) likewise; the least (-5: none).", () -> {
            for (int apart = 0; apart < 10; apart++) {
                FootmenMatch x = of(one(5, 3, 0, 1), one(0, 0, apart, 4));
                due("firm(0, 0), nothing SEEN", x.firm(0, 0), 10);
                due("firm(0, 1), nothing SEEN", x.firm(0, 1), 0);
                x.see(0, 1, 4);
                due("firm(0, 0), " + apart + " APART", x.firm(0, 0), 10 - apart);
                due("firm(0, 1), " + apart + " APART", x.firm(0, 1), apart);
                x.see(-1, 0, 0);
                x.see(0, 1, 1);
                due("firm(0, 0), not followed", x.firm(0, 0), apart);
                due("firm(0, 1), not followed", x.firm(0, 1), apart == 0 ? MISSING : 0);
                x.see(0, 0, 2);
                due("firm(0, 0), none", x.firm(0, 0), 0);
                due("firm(0, 1), none", x.firm(0, 1), MISSING);
                due("of(0, 1)", x.of(0, 1), 3);
            }
        });
    }

    private static void fraction(String what, long above, long below, long wantAbove, long wantBelow) {
        due(what + ", above the line", above, wantAbove);
        due(what + ", below the line", below, wantBelow);
    }

    private static void odds() {
        term(2, "ODDS of one, another one (or the same), a STATE and n STEPS (0 .. 60)", () -> {
            FootmenMatch x = of(one(0, 0, 0, 1), one(0, 0, 0, 2));
            fraction("odds(0, 0, 9, 0)", x.odds(0, 0, 9, 0, 0), x.odds(0, 0, 9, 0, 1), 1, 10);
            fraction("odds(0, 1, 2, 0)", x.odds(0, 1, 2, 0, 0), x.odds(0, 1, 2, 0, 1), 1, 1);
            fraction("odds(0, 1, 2, 1)", x.odds(0, 1, 2, 1, 0), x.odds(0, 1, 2, 1, 1), 1, 10);
            fraction("odds(0, 0, 2, 1)", x.odds(0, 0, 2, 1, 0), x.odds(0, 0, 2, 1, 1), 1, 1);
            fraction("odds(0, 0, 5, 60)", x.odds(0, 0, 5, 60, 0), x.odds(0, 0, 5, 60, 1), 1, 10);
            fraction("odds(0, 1, 5, 60)", x.odds(0, 1, 5, 60, 0), x.odds(0, 1, 5, 60, 1), 0, 1);
            due("odds, n 61", x.odds(0, 0, 0, 61, 0), NO);
            due("odds, n -1", x.odds(0, 0, 0, -1, 0), NO);
        });
        term(2, "if the STATE of the one is any of 0 .. 9 now, each alike likely: how likely the other is in that STATE "
                + "behind n: a fraction in lowest terms.", () -> {
            for (int own = 0; own < 10; own++) {
                FootmenMatch x = of(one(0, 0, 0, 7), one(1, 0, 0, own));
                int ways = own + 1;
                int by = ways == 10 ? 10 : ways == 5 ? 5 : ways % 2 == 0 ? 2 : 1;
                fraction("odds of " + ways + " by 10", x.odds(0, 1, own, 1, 0), x.odds(0, 1, own, 1, 1), ways / by, 10 / by);
            }
            FootmenMatch x = of(one(0, 0, 0, 7), one(1, 0, 0, 9));
            fraction("odds, never", x.odds(0, 1, 8, 1, 0), x.odds(0, 1, 8, 1, 1), 0, 1);
        });
        term(2, "MEAN: STATES of those not AWAY, together, by how many they are: a fraction in lowest terms (NO: there are "
                + "none).", () -> {
            FootmenMatch x = new FootmenMatch();
            fraction("mean, nobody", x.mean(0), x.mean(1), NO, NO);
            add(x, one(0, 0, 0, 9));
            fraction("mean of 9", x.mean(0), x.mean(1), 9, 1);
            add(x, one(0, 0, 0, 0), one(0, 0, 0, 0), one(0, 0, 0, 0), one(0, 0, 0, 0));
            fraction("mean, 9 by 5", x.mean(0), x.mean(1), 9, 5);
            add(x, one(0, 0, 0, 0));
            fraction("mean, 9 by 6", x.mean(0), x.mean(1), 3, 2);
            x.set(1, 1, 3);
            fraction("mean, 12 by 6", x.mean(0), x.mean(1), 2, 1);
            x.set(2, 1, 4);
            fraction("mean, 16 by 6", x.mean(0), x.mean(1), 8, 3);
            x.away(0, true);
            fraction("mean, 7 by 5", x.mean(0), x.mean(1), 7, 5);
            x.away(1, true);
            x.away(2, true);
            fraction("mean, 0 by 3", x.mean(0), x.mean(1), 0, 1);
            x.away(3, true);
            x.away(4, true);
            x.away(5, true);
            fraction("mean, all AWAY", x.mean(0), x.mean(1), NO, NO);
        });
    }

    private static void plans() {
        term(2, "rows of what 0 a STEP goes (the other not looked at)", () -> {
            FootmenMatch x = new FootmenMatch();
            due("plan(0, LOW), nobody", x.plan(0, LOW), 1);
            due("plan(0, -1)", x.plan(0, -1), 2);
            due("plan(0, HIGH)", x.plan(0, HIGH), 3);
            add(x, one(0, 0, 0, 1), one(0, 0, 0, 2), one(0, 0, 9, 9));
            due("done(1), behind 3 STEPS", x.done(1), 2 + 1 + 1);
            due("on(3, 12)", x.on(3, 12), 1);
            due("told(0)", x.told(0), 0);
        });
        term(2, "1 one is AWAY, 2 one is not, 3 one comes to a ROOM, told as 10 times the one and the ROOM", () -> {
            FootmenMatch x = of(one(0, 0, 0, 1), one(0, 0, 0, 2), one(0, 0, 0, 4), one(0, 0, 0, 0), one(0, 0, 0, 0),
                    one(0, 0, 0, 7));
            x.away(5, true);
            due("plan(1, 5), AWAY already", x.plan(1, 5), 1);
            due("done(0)", x.done(0), 4);
            due("plan(2, 5)", x.plan(2, 5), 2);
            due("done(0)", x.done(0), 5);
            due("plan(1, 0)", x.plan(1, 0), 3);
            due("done(0)", x.done(0), 4);
            due("plan(3, 59)", x.plan(3, 59), 4);
            due("plan(3, 19)", x.plan(3, 19), 5);
            due("plan(3, 10)", x.plan(3, 10), 6);
            due("plan(3, 49)", x.plan(3, 49), 7);
            due("plan(0, 0), 4 and 5 alone in ROOM 9", x.plan(0, 0), 8);
            due("done(1), 1 4 2 2 7 0", x.done(1), 1 + 4 + 2 + 2 + 7 + 0);
            due("told(4)", x.told(4), 1 << 5);
        });
        term(2, "told as 10 times the one and the ROOM", () -> {
            for (int one = 0; one < 6; one++) {
                FootmenMatch x = new FootmenMatch();
                for (int i = 0; i < 6; i++) {
                    add(x, one(i == one ? 0 : 1, 0, 0, i == one ? 0 : 9));
                }
                due("house(), who follows is in its ROOM", read(x, "reach 0"), 0);
                for (int room = 0; room < 10; room++) {
                    for (int i = 0; i < 6; i++) {
                        x.set(i, 0, i == one ? (room + 1) % 10 : room);
                    }
                    due("done(1), alone", x.done(1), 45);
                    due("plan(3, " + one + " and " + room + ")", x.plan(3, 10 * one + room), 1);
                    due("plan(0, 0)", x.plan(0, 0), 2);
                    due("done(1), " + one + " in ROOM " + room, x.done(1), 54);
                    due("plan(-1, 0)", x.plan(-1, 0), 0);
                    due("plan(0, 0)", x.plan(0, 0), 1);
                    due("done(1), not there", x.done(1), 45);
                    due("plan(-1, 0)", x.plan(-1, 0), 0);
                }
            }
        });
        term(2, "one comes to a ROOM, told as 10 times the one and the ROOM; 8 at most.", () -> {
            FootmenMatch x = mere(6);
            for (int i = 1; i <= 8; i++) {
                due("plan(3, 5 and ROOM)", x.plan(3, 50 + i), i);
            }
            due("plan(0, 0), the ninth", x.plan(0, 0), FULL);
            due("plan(3, 0), the ninth", x.plan(3, 0), FULL);
            due("plan(3, 60)", x.plan(3, 60), NONE);
            due("count(3)", x.count(3), 8);
        });
        term(2, "DONE: UNLIKE; STATES of all, AWAY or not, together.", () -> {
            FootmenMatch x = new FootmenMatch();
            due("done(0), nobody", x.done(0), 0);
            due("done(1), nobody", x.done(1), 0);
            for (int i = 0; i < 6; i++) {
                add(x, one(0, 0, 0, 9));
            }
            due("done(0), no PLAN", x.done(0), 1);
            due("done(1), no PLAN", x.done(1), 54);
            for (int i = 0; i < 6; i++) {
                x.plan(1, i);
            }
            due("done(0), all AWAY", x.done(0), 0);
            due("done(1), all AWAY", x.done(1), 54);
            x.plan(2, 5);
            due("done(0), but one", x.done(0), 1);
        });
        term(2, "BOOK told by hand: FOOTMEN and STATES; 8 at most.", () -> {
            FootmenMatch x = of(one(0, 0, 0, 9), one(0, 0, 0, 0));
            for (int i = 1; i <= 8; i++) {
                due("book(i % 2, ..)", x.book(i % 2, i % 2 == 0 ? 9 : 0), i);
            }
            due("book(0, 0), the ninth", x.book(0, 0), FULL);
            due("count(4)", x.count(4), 8);
            due("looked(), the ninth is not there", x.looked(), MISSING);
        });
        term(2, "LOOKED at: the first by which it is otherwise now (-5: none).", () -> {
            FootmenMatch x = of(one(0, 0, 0, 3), one(0, 0, 0, 3));
            due("looked(), no BOOK", x.looked(), MISSING);
            for (int i = 0; i < 7; i++) {
                x.book(0, 3);
            }
            x.book(1, 4);
            due("looked(), the last", x.looked(), 7);
            x.set(1, 1, 4);
            due("looked(), none", x.looked(), MISSING);
            x.set(0, 1, 4);
            due("looked(), the first", x.looked(), 0);
            x.set(0, 1, 3);
            x.set(1, 1, 3);
            x.away(1, true);
            due("looked(), one AWAY", x.looked(), 7);
        });
    }

    private static void acts() {
        term(2, "ACTS of a FOOTMAN with x (ints, wrapping)", () -> {
            FootmenMatch x = of(one(0, 9, 0, 0), one(1, 9, 0, 0), one(2, 0, 0, 0), one(3, 9, 0, 0), one(4, 0, 0, 0),
                    one(5, 9, 0, 0));
            due("MAN bows, the most", x.act(0, 0, HIGH), HIGH);
            due("PIOUS bows, 3 times the most and 1", x.act(1, 0, HIGH), HIGH - 1);
            due("PIOUS bows, 3 times the least and 1", x.act(1, 0, LOW), LOW + 1);
            due("MAN serves, 9 below the least", x.act(0, 1, LOW), HIGH - 8);
            due("MAN weeps, twice 9 below the most", x.act(0, 2, HIGH), -20);
            due("LENT serves, less the least", x.act(2, 1, HIGH - 1), LOW);
            due("STOUT weeps", x.act(3, 2, HIGH), -14 ^ 7);
            due("BEADLE weeps, 1 below the least", x.act(4, 2, LOW), ((HIGH * 3 + 4) * 2) + (2 * 3 + 4));
            due("FAR bows, 5 above the most", x.act(5, 0, HIGH), LOW + 4 ^ 5);
            x = of(one(6, 9, 0, 0), one(6, 9, 0, 0));
            due("TOLD serves", x.act(1, 1, HIGH), LOW);
        });
        term(2, "i its number.", () -> {
            FootmenMatch x = mere(6);
            for (int i = 0; i < 6; i++) {
                due("act(" + i + ", 0, 0)", x.act(i, 0, 0), i);
            }
        });
        term(2, "or, if that has none, of the next KIND above that has one", () -> {
            FootmenMatch x = of(one(4, 2, 0, 0), one(5, 2, 0, 0), one(6, 2, 0, 0), one(3, 2, 0, 0));
            due("BEADLE bows as PIOUS", x.act(0, 0, 5), 15);
            due("BEADLE serves as MAN, its bows as PIOUS", x.act(0, 1, 5), 15 - 2);
            due("FAR serves as LENT, its bows its own", x.act(1, 1, 5), -(((5 + 1) ^ 1) - 2));
            due("FAR weeps as MAN, its serves as LENT", x.act(1, 2, 5), -(((5 + 1) ^ 1) - 2) * 2);
            due("TOLD bows as MAN", x.act(2, 0, 5), 7);
            due("TOLD weeps as STOUT, its serves its own", x.act(2, 2, 5), (7 - 2 + 2) * 2 ^ 7);
            due("STOUT bows as MAN", x.act(3, 0, 5), 8);
            due("STOUT serves as MAN", x.act(3, 1, 5), 6);
        });
    }

    private interface Want {
        int of(int x);
    }

    /** What an act of one with i 3 and v 7 answers, by numbers at all ends. */
    private static void answers(int kind, int act, Want want) {
        FootmenMatch x = mere(3);
        add(x, one(kind, 7, 0, 0));
        for (int n : new int[] {0, 1, -1, 2, 10, LOW, LOW + 1, LOW / 3, LOW / 2, HIGH / 2, HIGH / 3, HIGH - 1, HIGH}) {
            due("act(3, " + act + ", " + n + ") of KIND " + kind, x.act(3, act, n), want.of(n));
        }
    }

    private static void bodies() {
        term(2, "MAN: 1 bows: x + i. 2 serves: bows(x) - v. 3 weeps: serves(x) * 2.", () -> {
            answers(0, 0, n -> n + 3);
            answers(0, 1, n -> n + 3 - 7);
            answers(0, 2, n -> (n + 3 - 7) * 2);
        });
        term(2, "PIOUS: 11 bows: super.bows(x * 3).", () -> {
            answers(1, 0, n -> n * 3 + 3);
            answers(1, 1, n -> n * 3 + 3 - 7);
            answers(1, 2, n -> (n * 3 + 3 - 7) * 2);
        });
        term(2, "LENT: 21 serves: -super.serves(x).", () -> {
            answers(2, 0, n -> n + 3);
            answers(2, 1, n -> -(n + 3 - 7));
            answers(2, 2, n -> -(n + 3 - 7) * 2);
        });
        term(2, "STOUT: 31 weeps: super.weeps(x) ^ 7.", () -> {
            answers(3, 0, n -> n + 3);
            answers(3, 1, n -> n + 3 - 7);
            answers(3, 2, n -> (n + 3 - 7) * 2 ^ 7);
        });
        term(2, "BEADLE: 41 weeps: super.weeps(x - 1) + bows(2).", () -> {
            answers(4, 0, n -> n * 3 + 3);
            answers(4, 1, n -> n * 3 + 3 - 7);
            answers(4, 2, n -> ((n - 1) * 3 + 3 - 7) * 2 + (2 * 3 + 3));
        });
        term(2, "FAR: 51 bows: super.bows(x) ^ i.", () -> {
            answers(5, 0, n -> n + 3 ^ 3);
            answers(5, 1, n -> -((n + 3 ^ 3) - 7));
            answers(5, 2, n -> -((n + 3 ^ 3) - 7) * 2);
        });
        term(2, "TOLD: 61 serves: super.serves(x) + v.", () -> {
            answers(6, 0, n -> n + 3);
            answers(6, 1, n -> n + 3 - 7 + 7);
            answers(6, 2, n -> (n + 3 - 7 + 7) * 2 ^ 7);
        });
    }

    private static void ran(FootmenMatch x, int man, int act, int... bodies) {
        x.act(man, act, 3);
        due("count(6) of " + man + ", " + act, x.count(6), bodies.length);
        for (int i = 0; i < 21; i++) {
            due("trace(" + i + ") of " + man + ", " + act, x.trace(i), i < bodies.length ? bodies[i] : NONE);
        }
    }

    private static void traces() {
        term(2, "super.bows(..): so from the KIND above the body's on", () -> {
            FootmenMatch x = of(one(4, 0, 0, 0));
            ran(x, 0, 0, 11, 1);
            ran(of(one(4, 0, 0, 0)), 0, 2, 41, 3, 2, 11, 1, 11, 1);
            ran(of(one(5, 0, 0, 0)), 0, 0, 51, 1);
            ran(of(one(5, 0, 0, 0)), 0, 1, 21, 2, 51, 1);
            ran(of(one(6, 0, 0, 0)), 0, 1, 61, 2, 1);
            ran(of(one(6, 0, 0, 0)), 0, 2, 31, 3, 61, 2, 1);
            due("BEADLE bows, PIOUS once", x.act(0, 0, 2), 6);
        });
        term(2, "what stands in a body is done from the left on.", () ->
            ran(of(one(4, 0, 0, 0)), 0, 2, 41, 3, 2, 11, 1, 11, 1));
        term(2, "THE TRACE: the numbers of the bodies that ran in the latest act(), as they began", () -> {
            FootmenMatch x = of(one(0, 0, 0, 0), one(1, 0, 0, 0), one(2, 0, 0, 0), one(3, 0, 0, 0), one(4, 0, 0, 0));
            due("trace(0), no act", x.trace(0), NONE);
            due("count(6), no act", x.count(6), 0);
            ran(x, 4, 2, 41, 3, 2, 11, 1, 11, 1);
            ran(x, 0, 2, 3, 2, 1);
            ran(x, 1, 2, 3, 2, 11, 1);
            ran(x, 2, 2, 3, 21, 2, 1);
            ran(x, 3, 2, 31, 3, 2, 1);
            ran(x, 0, 0, 1);
        });
        term(2, "the first 20 are kept.", () -> {
            FootmenMatch x = of(one(4, 0, 0, 0));
            for (int i = 0; i < 4; i++) {
                ran(x, 0, 2, 41, 3, 2, 11, 1, 11, 1);
            }
        });
    }

    private static void image() {
        term(2, "THE IMAGE: all that there is (but THE IMAGE and THE TRACE).", () -> {
            FootmenMatch x = furnished();
            String before = portrait(x);
            due("image()", x.image(), 3);
            x.house();
            x.row(0, 2, 1);
            x.row(0, 0, 1);
            x.away(2, false);
            x.away(0, true);
            x.set(1, 0, 9);
            x.set(1, 1, 0);
            x.pass(2);
            x.see(-1, 0, 0);
            x.see(1, 5, 5);
            x.plan(-1, 0);
            x.plan(3, 0);
            x.book(-1, 0);
            x.book(0, 9);
            write(x, "shun 1");
            add(x, one(1, 1, 1, 1));
            x.act(0, 1, 1);
            for (int again = 0; again < 2; again++) {
                due("undo()", x.undo(), 3);
                same("all behind undo()", portrait(x), before);
                due("trace(0), of the latest act", x.trace(0), 61);
                due("count(6), of the latest act", x.count(6), 3);
                due("house(), THE TAPE as it was", x.house(), 2);
                due("told(1)", x.told(1), 7);
            }
        });
    }

    private static void refusals() {
        term(3, "of several the first one told", () -> {
            FootmenMatch x = mere(6);
            due("man(), all three", x.man(7, 10, 0, 0), NONE);
            due("man(), all three", x.man(0, 10, 10, 0), NONE);
            due("man(), all three", x.man(0, 10, 0, 10), NONE);
            due("man(), NONE and FULL", x.man(-1, 0, 0, 0), NONE);
            due("man(), BAD and FULL", x.man(0, 10, 0, 0), BAD);
            due("row(), all three", x.row(6, 0, 10), NONE);
            due("row(), all three", x.row(0, 4, 10), NONE);
            due("row(), NONE and STATE", x.row(0, 4, 0), NONE);
            due("row(), BAD and STATE", x.row(0, 0, 10), BAD);
            due("on(), NONE and BAD", x.on(61, 16), NONE);
            due("tells(), NONE and BAD", x.tells(6, 21), NONE);
            for (int i = 0; i < 8; i++) {
                x.see(0, 0, 0);
                x.plan(0, 0);
                x.book(0, 0);
            }
            due("see(), all three", x.see(6, 21, 0), NONE);
            due("see(), all three", x.see(0, 21, 10), NONE);
            due("see(), NONE and FULL", x.see(0, 0, 10), NONE);
            due("see(), BAD and FULL", x.see(0, 21, 0), BAD);
            due("plan(), NONE and FULL", x.plan(1, 6), NONE);
            due("plan(), NONE and FULL", x.plan(4, 0), NONE);
            due("book(), NONE and FULL", x.book(0, 10), NONE);
            due("book(), NONE and FULL", x.book(6, 0), NONE);
            goTo(x, 9999);
            due("pass(), BAD and STATE", x.pass(61), BAD);
            for (int i = 0; i < 100; i++) {
                x.feed('x');
            }
            due("feed(), BAD and FULL", x.feed(128), BAD);
        });
        term(3, "NONE there is no such FOOTMAN, KIND, ROOM, STATE, what, part, k, i", () -> {
            FootmenMatch x = mere(1);
            x.act(0, 0, 0);
            due("away(), no FOOTMAN", x.away(1, true), NONE);
            due("man(), no KIND", x.man(7, 0, 0, 0), NONE);
            due("as(), no KIND", x.as(0, 7), NONE);
            due("man(), no ROOM", x.man(0, 0, 10, 0), NONE);
            due("set(), no ROOM", x.set(0, 0, 10), NONE);
            due("man(), no STATE", x.man(0, 0, 0, 10), NONE);
            due("set(), no STATE", x.set(0, 1, 10), NONE);
            due("of(), no what", x.of(0, 7), NONE);
            due("mean(), no part", x.mean(2), NO);
            due("roomed(), no k", x.roomed(6), NONE);
            due("row(), no k", x.row(0, 4, 0), NONE);
            due("trace(), no i", x.trace(1), NONE);
        });
        term(3, "They change nothing.", () -> {
            FootmenMatch x = furnished();
            String before = portrait(x);
            x.feed(-1);
            x.feed(128);
            x.man(7, 0, 0, 0);
            x.man(0, 10, 0, 0);
            x.man(0, 0, 10, 0);
            x.man(0, 0, 0, 10);
            x.row(3, 0, 9);
            x.row(0, 4, 9);
            x.row(0, 0, 10);
            x.row(1, 0, 9);
            x.set(3, 0, 0);
            x.set(0, 2, 0);
            x.set(0, 0, 10);
            x.set(0, 1, 10);
            x.away(3, true);
            x.away(-1, true);
            x.pass(-1);
            x.pass(61);
            x.on(61, 0);
            x.tells(0, 21);
            x.see(3, 0, 0);
            x.see(-2, 0, 0);
            x.see(0, 21, 0);
            x.see(0, 0, 10);
            x.plan(4, 0);
            x.plan(-2, 0);
            x.plan(1, 3);
            x.plan(3, -1);
            x.plan(3, 30);
            x.book(3, 0);
            x.book(-2, 0);
            x.book(0, 10);
            same("all behind refusals", portrait(x), before);
            due("trace(0)", x.trace(0), 41);
            due("count(6)", x.count(6), 7);
            due("house(), THE TAPE as it was", x.house(), 2);
            due("told(1)", x.told(1), 7);
            due("undo(), THE IMAGE as it was", x.undo(), 2);
            due("count(1)", x.count(1), 0);
            due("told(0)", x.told(0), 0);
            full();
            late();
        });
        term(3, "Where an answer may be below 0, -999999 tells NONE.", () -> {
            FootmenMatch x = mere(2);
            due("house()", read(x, "shun 12 p=0"), 0);
            due("pull(0, 1)", x.pull(0, 1), -2);
            due("pull(0, 2)", x.pull(0, 2), -999999);
            due("pull(2, 0)", x.pull(2, 0), -999999);
            due("pull(-1, 0)", x.pull(-1, 0), -999999);
            due("pull(0, -1)", x.pull(0, -1), -999999);
        });
    }

    /** What is refused as it is FULL changes nothing. */
    private static void full() {
        FootmenMatch x = mere(6);
        for (int i = 0; i < 5; i++) {
            read(x, "reach 5");
        }
        for (int i = 0; i < 8; i++) {
            x.see(0, 0, 0);
            x.plan(0, 0);
            x.book(0, 0);
        }
        for (int i = 0; i < 100; i++) {
            x.feed('x');
        }
        String before = portrait(x);
        due("man(), FULL", x.man(1, 1, 1, 1), FULL);
        due("house(), FULL", x.house(), FULL);
        due("see(), FULL", x.see(0, 0, 9), FULL);
        due("plan(), FULL", x.plan(1, 0), FULL);
        due("book(), FULL", x.book(0, 9), FULL);
        due("feed(), FULL", x.feed('y'), FULL);
        due("undo(), no IMAGE", x.undo(), STATE);
        same("all behind FULL ones", portrait(x), before);
    }

    /** What is refused as STEP would be above 9999 changes nothing. */
    private static void late() {
        FootmenMatch x = of(one(0, 0, 0, 1), one(0, 0, 0, 2), one(4, 0, 9, 3));
        goTo(x, 9998);
        String before = portrait(x);
        due("pass(2)", x.pass(2), STATE);
        due("pass(60)", x.pass(60), STATE);
        same("all behind late ones", portrait(x), before);
    }
}
