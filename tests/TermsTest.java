/** The sentences of part 1 of the terms that name an edge, a test for each: rooms, footmen, houses, steps. */
public final class TermsTest extends Sentences {
    public static void main(String[] args) {
        footmen();
        tape();
        expressions();
        faults();
        houses();
        pulls();
        leaders();
        nexts();
        steps();
        end();
    }

    private static void footmen() {
        term(1, "ROOMS 0 .. 9 lie in a row", () -> {
            FootmenMatch x = of(one(0, 0, 0, 0), one(0, 0, 9, 0));
            due("man(), ROOM -1", x.man(0, 0, -1, 0), NONE);
            due("man(), ROOM 10", x.man(0, 0, 10, 0), NONE);
            due("set(0, 0, -1)", x.set(0, 0, -1), NONE);
            due("set(0, 0, 10)", x.set(0, 0, 10), NONE);
            due("set(0, 0, 9)", x.set(0, 0, 9), 0);
            due("set(1, 0, 0)", x.set(1, 0, 0), 9);
            due("of(0, 2)", x.of(0, 2), 9);
            due("of(1, 2)", x.of(1, 2), 0);
        });
        term(1, "two are as many APART as their numbers", () -> {
            FootmenMatch x = of(one(0, 0, 0, 0), one(0, 0, 0, 0));
            for (int a = 0; a < 10; a++) {
                for (int b = 0; b < 10; b++) {
                    x.set(0, 0, a);
                    x.set(1, 0, b);
                    due("pull by ROOMS " + a + " and " + b, x.pull(0, 1), 10 - Math.abs(a - b));
                }
            }
        });
        term(1, "FOOTMEN are numbered from 0 on, 6 at most", () -> {
            FootmenMatch x = new FootmenMatch();
            for (int i = 0; i < 6; i++) {
                due("of(i, 0), not yet", x.of(i, 0), NONE);
                due("man()", x.man(0, i, 0, 0), i);
            }
            due("man(), the seventh", x.man(0, 9, 0, 0), FULL);
            due("count(0)", x.count(0), 6);
            due("of(6, 0)", x.of(6, 0), NONE);
            for (int i = 0; i < 6; i++) {
                due("of(" + i + ", 1)", x.of(i, 1), i);
            }
        });
        term(1, "each of a KIND: 0 MAN; 1 PIOUS, 2 LENT, 3 STOUT under MAN; 4 BEADLE under PIOUS; 5 FAR under LENT; "
                + "6 TOLD under STOUT", () -> {
            String[] are = {"0", "01", "02", "03", "014", "025", "036"};
            for (int kind = 0; kind < 7; kind++) {
                FootmenMatch x = of(one(kind, 8, 0, 0));
                due("of(0, 0)", x.of(0, 0), kind);
                for (int k = 0; k < 7; k++) {
                    due("KIND " + kind + " as " + k, x.as(0, k), are[kind].indexOf('0' + k) < 0 ? -6 : 8);
                }
            }
            due("man(), KIND -1", mere(0).man(-1, 0, 0, 0), NONE);
            due("man(), KIND 7", mere(0).man(7, 0, 0, 0), NONE);
        });
        term(1, "a number v (0 .. 9)", () -> {
            FootmenMatch x = of(one(0, 0, 0, 0), one(0, 9, 0, 0));
            due("man(), v -1", x.man(0, -1, 0, 0), BAD);
            due("man(), v 10", x.man(0, 10, 0, 0), BAD);
            due("of(0, 1)", x.of(0, 1), 0);
            due("of(1, 1)", x.of(1, 1), 9);
        });
        term(1, "a ROOM (two may be in one)", () -> {
            FootmenMatch x = mere(6);
            due("count(0), all in ROOM 0", x.count(0), 6);
            due("pull(0, 5), 0 APART", x.pull(0, 5), 10);
            x.set(0, 0, 4);
            due("set(1, 0, 4), where 0 is", x.set(1, 0, 4), 0);
            due("of(1, 2)", x.of(1, 2), 4);
        });
        term(1, "a STATE (0 .. 9)", () -> {
            FootmenMatch x = of(one(0, 0, 0, 0), one(0, 0, 0, 9));
            due("man(), STATE -1", x.man(0, 0, 0, -1), NONE);
            due("man(), STATE 10", x.man(0, 0, 0, 10), NONE);
            due("set(0, 1, -1)", x.set(0, 1, -1), NONE);
            due("set(0, 1, 10)", x.set(0, 1, 10), NONE);
            due("set(0, 1, 9)", x.set(0, 1, 9), 0);
            due("set(1, 1, 0)", x.set(1, 1, 0), 9);
        });
        term(1, "AWAY, or not (not at first)", () -> {
            FootmenMatch x = mere(6);
            for (int i = 0; i < 6; i++) {
                due("of(" + i + ", 4)", x.of(i, 4), 0);
            }
            x = mere(1);
            x.image();
            add(x, one(0, 0, 0, 0));
            x.away(1, true);
            x.undo();
            add(x, one(0, 0, 0, 0));
            due("of(1, 4), of one where an AWAY one was", x.of(1, 4), 0);
        });
        term(1, "TOLD ones a ROW of four numbers (0 .. 9; 0 at first)", () -> {
            FootmenMatch x = of(one(6, 0, 0, 0), one(6, 0, 0, 0));
            for (int k = 0; k < 4; k++) {
                due("row(1, k, 9), 0 at first", x.row(1, k, 9), 0);
                due("row(1, k, 0), 9 is the most", x.row(1, k, 0), 9);
                due("row(1, k, -1)", x.row(1, k, -1), BAD);
                due("row(1, k, 10)", x.row(1, k, 10), BAD);
                due("row(0, k, 1), of its own", x.row(0, k, 1), 0);
            }
            due("row(1, 4, 0)", x.row(1, 4, 0), NONE);
            x = new FootmenMatch();
            x.image();
            add(x, one(6, 0, 0, 0));
            x.row(0, 2, 5);
            x.undo();
            add(x, one(6, 0, 0, 0));
            due("row(0, 2, 0), of one where another was", x.row(0, 2, 0), 0);
        });
        term(1, "STEP: 0 at first.", () -> due("told(0)", new FootmenMatch().told(0), 0));
    }

    private static void tape() {
        term(1, "THE TAPE (bytes, 100 at most)", () -> {
            FootmenMatch x = mere(2);
            String most = "heed 10 p<10" + "&p<9".repeat(21) + "&q=1";
            for (int i = 0; i < 100; i++) {
                due("feed, sign " + i, x.feed(most.charAt(i)), i + 1);
            }
            due("feed, sign 100", x.feed('1'), FULL);
            due("house(), of 100 signs", x.house(), 0);
            due("pull(0, 1), as its last TEST tells", x.pull(0, 1), 20);
            due("pull(1, 0), as its last TEST tells", x.pull(1, 0), 10);
        });
        term(1, "CLAUSES, 10 at most, with ; between", () -> {
            String nine = "reach 1;reach 2;reach 3;reach 4;reach 5;reach 6;reach 7;reach 8;reach 9;";
            stands("reach 1");
            stands(nine + "reach 10");
            fault(nine + "reach 10", ";");
            fault(nine + "reach 10", ";reach 11");
            fault("", "");
            fault("", ";");
            fault("", ";reach 1");
            fault("reach 1;", "");
            fault("reach 1;", ";reach 2");
            fault("reach 1", "reach 2");
            fault("reach 1", ",reach 2");
            fault("heed 1 p=1", "heed 1 p=1");
        });
        term(1, "reach n; heed n E; shun n E", () -> {
            for (String word : new String[] {"reach", "heed", "shun"}) {
                for (int i = 0; i < word.length(); i++) {
                    fault(word.substring(0, i), "");
                    fault(word.substring(0, i), "~");
                    fault(word.substring(0, i), word.substring(i).toUpperCase());
                }
            }
            stands("reach 1");
            fault("reach 1", " p=1");
            stands("heed 1 p=1");
            fault("heed 1", "");
            fault("heed 1", ";");
            stands("shun 1 p=1");
            fault("shun 1", "");
            fault("shun 1", ";");
        });
        term(1, "one blank ahead of each part behind the word", () -> {
            for (String word : new String[] {"heed", "shun"}) {
                fault(word, "1 p=1");
                fault(word + " ", " 1 p=1");
                fault(word + " 1", "p=1");
                fault(word + " 1 ", " p=1");
                fault(word + " 1 p=1", " ");
                fault(word + " 1 p=1", " ;reach 1");
                fault(word + " 1 p", " =1");
                fault(word + " 1 p=", " 1");
                fault(word + " 1 p=1", " &p=1");
                fault(word + " 1 p=1&", " p=1");
                fault(word + " 1 !", " p=1");
                fault(word + " 1 (", " p=1)");
            }
            fault("", " heed 1 p=1");
            fault("reach 1;", " reach 1");
            fault("reach", "1");
            fault("reach ", " 1");
            fault("reach 1", " ");
            fault("reach", "\t1");
        });
        term(1, "n 1 or 2 digits, no 0 ahead of another", () -> {
            String[] heads = {"reach ", "heed ", "shun "};
            for (String head : heads) {
                String tail = head.equals("reach ") ? "" : " p=1";
                for (String n : new String[] {"0", "1", "9", "10", "90", "99"}) {
                    stands(head + n + tail);
                }
                fault(head, tail);
                fault(head, "-1" + tail);
                fault(head + "0", "0" + tail);
                fault(head + "0", "5" + tail);
                fault(head + "10", "0" + tail);
                fault(head + "99", "9" + tail);
            }
        });
        term(1, "a number likewise", () -> {
            for (String n : new String[] {"0", "9", "10", "99"}) {
                stands("heed 1 p=" + n);
            }
            fault("heed 1 p=", "");
            fault("heed 1 p=", "&p=1");
            fault("heed 1 p=", "-1");
            fault("heed 1 p=0", "0");
            fault("heed 1 p=0", "7");
            fault("heed 1 p=10", "0");
        });
    }

    /** Whether E holds of one (the first) and another one (the second): p<9 always does, p>9 never. */
    private static void holds(String e, boolean want) {
        FootmenMatch x = mere(2);
        due("house()", read(x, "heed 5 " + e.replace("T", "p<9").replace("F", "p>9")), 0);
        due("pull(0, 1) by heed 5 " + e, x.pull(0, 1), want ? 15 : 10);
    }

    private static void expressions() {
        term(1, "E: T, or T|E.", () -> {
            holds("T", true);
            holds("F", false);
            holds("F|F", false);
            holds("F|T", true);
            holds("T|F", true);
            holds("F|F|F|T", true);
            holds("T|F&F", true);
            holds("F&F|T", true);
            fault("heed 1 ", "|p=1");
            fault("heed 1 p=1|", "");
            fault("heed 1 p=1|", "|p=1");
            fault("heed 1 p=1|", "&p=1");
        });
        term(1, "T: F, or F&T.", () -> {
            holds("T&T", true);
            holds("T&F", false);
            holds("F&T", false);
            holds("T&T&T&F", false);
            holds("T&T|F&T", true);
            holds("F&T|T&F", false);
            fault("heed 1 ", "&p=1");
            fault("heed 1 p=1&", "");
            fault("heed 1 p=1&", "&p=1");
            fault("heed 1 p=1&", "|p=1");
        });
        term(1, "F: !F, (E), or a TEST", () -> {
            holds("!T", false);
            holds("!F", true);
            holds("!!T", true);
            holds("!!!F", true);
            holds("!T|T", true);
            holds("!F&F", false);
            holds("!(T|T)", false);
            holds("!(F&F)", true);
            holds("(F|T)&F", false);
            holds("F&(F|T)", false);
            holds("!(!T)", true);
            holds("((((T))))", true);
            fault("heed 1 !", "");
            fault("heed 1 !", "|p=1");
            fault("heed 1 !", ")");
            fault("heed 1 (", "");
            fault("heed 1 (", ")");
            fault("heed 1 (p=1", "");
            fault("heed 1 (p=1", ";");
            fault("heed 1 (p=1", "(");
            fault("heed 1 (p=1)", ")");
            fault("heed 1 (p=1)", "p=1");
            fault("heed 1 p=1", ")");
            fault("heed 1 p=1", "!");
            fault("heed 1 p=1", "(p=1)");
        });
        term(1, "a TEST: p or q or k or s or d or t", () -> {
            for (char sign = 0; sign < 128; sign++) {
                if ("pqksdt".indexOf(sign) >= 0) {
                    stands("heed 1 " + sign + "=1");
                } else if ("!(".indexOf(sign) < 0) {
                    fault("heed 1 ", sign + "=1");
                }
            }
        });
        term(1, "one of < = >", () -> {
            for (int n = 0; n < 12; n++) {
                FootmenMatch x = of(one(0, 0, 0, 0), one(0, 0, 0, 5));
                due("house()", read(x, "heed 1 s<" + n + ";heed 20 s=" + n + ";heed 40 s>" + n), 0);
                due("pull(0, 1), s of 5 and " + n, x.pull(0, 1), 10 + (n < 5 ? 40 : n == 5 ? 20 : 1));
            }
            FootmenMatch x = of(one(0, 0, 0, 0), one(0, 0, 0, 9));
            due("house()", read(x, "heed 1 s<99;heed 20 s=99;heed 40 s>9"), 0);
            due("pull(0, 1), s of 9", x.pull(0, 1), 11);
            fault("heed 1 p", "");
            fault("heed 1 p", "1");
            fault("heed 1 p", "!1");
            fault("heed 1 p=", "=1");
            fault("heed 1 p<", "=1");
            fault("heed 1 p>", "<1");
        });
        term(1, "p the number of the one, q of the other", () -> {
            FootmenMatch x = mere(6);
            due("house()", read(x, "heed 1 p=0;heed 2 q=0;heed 20 p=5;heed 40 q=5;heed 99 p>5|q>5"), 0);
            due("pull(0, 5)", x.pull(0, 5), 10 + 1 + 40);
            due("pull(5, 0)", x.pull(5, 0), 10 + 2 + 20);
            due("pull(3, 4)", x.pull(3, 4), 10);
        });
        term(1, "k the KIND of the one", () -> {
            FootmenMatch x = of(one(0, 0, 0, 0), one(6, 0, 0, 0));
            due("house()", read(x, "heed 1 k=0;heed 20 k=6;heed 40 k>6"), 0);
            due("pull(0, 1)", x.pull(0, 1), 11);
            due("pull(1, 0)", x.pull(1, 0), 30);
        });
        term(1, "s the STATE of the other", () -> {
            FootmenMatch x = of(one(0, 0, 0, 0), one(0, 0, 0, 9));
            due("house()", read(x, "heed 1 s=0;heed 20 s=9;heed 40 s>9"), 0);
            due("pull(0, 1)", x.pull(0, 1), 30);
            due("pull(1, 0)", x.pull(1, 0), 11);
        });
        term(1, "d how many their ROOMS are APART", () -> {
            FootmenMatch x = of(one(0, 0, 0, 0), one(0, 0, 0, 0), one(0, 0, 9, 0));
            due("house()", read(x, "heed 1 d=0;heed 20 d=9;heed 40 d>9"), 0);
            due("pull(0, 1)", x.pull(0, 1), 11);
            due("pull(0, 2)", x.pull(0, 2), 21);
            due("pull(2, 0)", x.pull(2, 0), 21);
        });
        term(1, "t STEP modulo 10", () -> {
            FootmenMatch x = mere(2);
            due("house()", read(x, "heed 1 t=0;heed 20 t=9;heed 40 t>9"), 0);
            due("pull(0, 1), STEP 0", x.pull(0, 1), 11);
            goTo(x, 9);
            due("pull(0, 1), STEP 9", x.pull(0, 1), 30);
            goTo(x, 10);
            due("pull(0, 1), STEP 10", x.pull(0, 1), 11);
            goTo(x, 99);
            due("pull(0, 1), STEP 99", x.pull(0, 1), 30);
        });
        term(1, "At most 5 of ! and ( are open", () -> {
            for (int way = 0; way < 32; way++) {
                StringBuilder open = new StringBuilder("heed 1 ");
                StringBuilder end = new StringBuilder("p=1");
                for (int i = 0; i < 5; i++) {
                    boolean bracket = (way >> i & 1) != 0;
                    open.append(bracket ? '(' : '!');
                    end.append(bracket ? ")" : "");
                }
                stands(open.toString() + end);
                fault(open.toString(), "!" + end);
                fault(open.toString(), "(" + end + ")");
            }
        });
        term(1, "(a ( till its ) , a ! till its F ends)", () -> {
            stands("heed 1 (((((p=1)))))&(((((p=1)))))");
            stands("heed 1 (((((p=1)))))|(((((p=1)))));shun 1 (((((p=1)))))");
            stands("heed 1 !!!!!p=1&!!!!!p=1|!!!!!p=1;shun 1 !!!!!p=1");
            stands("heed 1 ((((!p=1&!p=1|!p=1))))");
            stands("heed 1 !!!!(p=1)&!!!!(p=1)");
            stands("heed 1 (!p=1&!!!!p=1)");
            stands("heed 1 !(!(!p=1&!p=1)&!!!p=1)");
            fault("heed 1 ((((!p=1&!", "!p=1))))");
            fault("heed 1 !(p=1&!!!", "!p=1)");
            fault("heed 1 !(!!!p=1&(((", "(p=1))))");
            fault("heed 1 (p=1&((((", "(p=1)))))");
            fault("heed 1 (!(p=1)&((((", "(p=1)))))");
        });
    }

    private static void faults() {
        term(1, "FAULT: the place of the first byte with which no HOUSE can go on (the size, if it ends too early).", () -> {
            String text = "reach 1^2^;heed 3 p=0^&!q<2^|(k>1&!(t=0))^;shun 10 !(s=4|d=0^)^&t<7^;reach 0^";
            StringBuilder head = new StringBuilder();
            int open = 0;
            for (int i = 0; i <= text.length(); i++) {
                boolean mayEnd = i < text.length() && text.charAt(i) == '^' && open == 0;
                i += i < text.length() && text.charAt(i) == '^' ? 1 : 0;
                FootmenMatch x = new FootmenMatch();
                due("house() by " + head, read(x, head.toString()), mayEnd ? 0 : -10 - head.length());
                due("count(5)", x.count(5), 0);
                fault(head.toString(), "~");
                fault(head.toString(), "~" + text);
                fault(head.toString(), "\0");
                fault(head.toString(), "\u007f");
                if (i < text.length()) {
                    head.append(text.charAt(i));
                    open += text.charAt(i) == '(' ? 1 : text.charAt(i) == ')' ? -1 : 0;
                }
            }
            fault("reach ", "x;heed y");
            fault("heed 1 " + "p=1&".repeat(23), "");
        });
    }

    private static void houses() {
        term(1, "HOUSES are numbered from 0 on, 5 at most", () -> {
            FootmenMatch x = new FootmenMatch();
            for (int i = 0; i < 5; i++) {
                due("house() " + i, read(x, "reach " + i), i);
                due("house(), a FAULT has no number", read(x, "x"), i < 4 ? -10 : FULL);
                if (i == 4) {
                    due("house(), the sixth", read(x, "reach 7"), FULL);
                }
            }
            due("count(1)", x.count(1), 5);
            due("told(1)", x.told(1), 4);
        });
        term(1, "the newest one holds", () -> {
            FootmenMatch x = mere(2);
            for (int i = 0; i < 5; i++) {
                due("house()", read(x, "reach " + (9 - i) + ";heed " + (i + 1) + " p=0"), i);
                due("told(1)", x.told(1), 9 - i);
                due("pull(0, 1)", x.pull(0, 1), 10 + i + 1);
            }
        });
        term(1, "without one there are no CLAUSES.", () -> {
            FootmenMatch x = of(one(0, 0, 0, 0), one(0, 0, 9, 0));
            due("pull(0, 1)", x.pull(0, 1), 1);
            due("of(0, 5)", x.of(0, 5), 1);
            read(x, "shun 1 p=0;");
            due("pull(0, 1), behind a FAULT", x.pull(0, 1), 1);
        });
        term(1, "REACH (9 without): the last n of reach.", () -> {
            FootmenMatch x = new FootmenMatch();
            due("told(1), no HOUSE", x.told(1), 9);
            read(x, "reach 3;reach 0");
            due("told(1), the last", x.told(1), 0);
            read(x, "heed 1 p=1");
            due("told(1), no reach", x.told(1), 9);
            read(x, "reach 0;heed 5 p=1;reach 99;shun 7 p=1");
            due("told(1), not the last CLAUSE", x.told(1), 99);
            read(x, "reach 1;reach x");
            due("told(1), behind a FAULT", x.told(1), 99);
        });
    }

    private static void pulls() {
        term(1, "PULL on one by another one (may be below 0)", () -> {
            FootmenMatch x = of(one(0, 0, 0, 0), one(0, 0, 9, 0));
            due("house()", read(x, "shun 1 p=0"), 0);
            due("pull(0, 1)", x.pull(0, 1), 0);
            due("house()", read(x, "shun 2 p=0"), 1);
            due("pull(0, 1)", x.pull(0, 1), -1);
            String nine = "shun 99 p=0;shun 99 p=0;shun 99 p=0;shun 99 p=0;shun 99 p=0;shun 99 p=0;shun 99 p=0;shun 99 p=0";
            due("house()", read(x, nine), 2);
            due("pull(0, 1)", x.pull(0, 1), 1 - 8 * 99);
        });
        term(1, "10, less how many their ROOMS are APART, and the n of all heed whose E holds, less those of all shun, "
                + "together", () -> {
            FootmenMatch x = of(one(0, 0, 0, 0), one(0, 0, 9, 0));
            due("house()", read(x, "heed 99 p=0;heed 99 p<1;shun 10 q=1;heed 0 p=0;shun 0 p=0;heed 50 p=1;shun 60 p=1;"
                    + "shun 1 q>0"), 0);
            due("pull(0, 1)", x.pull(0, 1), 1 + 99 + 99 - 10 - 1);
            due("pull(1, 0)", x.pull(1, 0), 1 + 50 - 60);
            String most = "heed 99 t<9;heed 99 t<9;heed 99 t<9;heed 99 t<9;heed 99 t<9;heed 99 t<9;heed 99 t<9;heed 99 t<9";
            due("house()", read(x, most), 1);
            due("pull(0, 1)", x.pull(0, 1), 1 + 8 * 99);
        });
    }

    private static void leaders() {
        term(1, "LEADER of one: of all others not AWAY", () -> {
            FootmenMatch x = mere(1);
            due("of(0, 5), alone", x.of(0, 5), MISSING);
            add(x, one(0, 0, 9, 0), one(0, 0, 9, 0));
            due("house()", read(x, "heed 99 p=0&q=0;heed 50 q=2"), 0);
            due("of(0, 5)", x.of(0, 5), 2);
            x.away(2, true);
            due("of(0, 5), 2 is AWAY", x.of(0, 5), 1);
            x.away(1, true);
            due("of(0, 5), all others are AWAY", x.of(0, 5), MISSING);
            x.away(2, false);
            due("of(0, 5), 2 is back", x.of(0, 5), 2);
        });
        term(1, "whose ROOMS are no more than REACH APART from its own", () -> {
            FootmenMatch x = of(one(0, 0, 4, 0), one(0, 0, 4, 0));
            for (int reach = 0; reach < 4; reach++) {
                due("house()", read(x, "reach " + reach), reach);
                for (int room = 0; room < 10; room++) {
                    x.set(1, 0, room);
                    int want = Math.abs(room - 4) <= reach ? 1 : MISSING;
                    due("of(0, 5), REACH " + reach + ", ROOM " + room, x.of(0, 5), want);
                }
            }
            due("house()", read(x, "reach 8"), 4);
            x.set(0, 0, 0);
            x.set(1, 0, 9);
            due("of(0, 5), 9 APART by REACH 8", x.of(0, 5), MISSING);
            x.set(0, 0, 1);
            due("of(0, 5), 8 APART by REACH 8", x.of(0, 5), 1);
        });
        term(1, "the one by whom PULL on it is greatest", () -> {
            FootmenMatch x = of(one(0, 0, 4, 0), one(0, 0, 5, 0), one(0, 0, 4, 0), one(0, 0, 3, 0));
            due("of(0, 5), not the first", x.of(0, 5), 2);
            due("house()", read(x, "heed 2 q=3"), 0);
            due("of(0, 5), the last", x.of(0, 5), 3);
            due("house()", read(x, "heed 2 q=1"), 1);
            due("of(0, 5), the first", x.of(0, 5), 1);
        });
        term(1, "if that is above 0", () -> {
            FootmenMatch x = of(one(0, 0, 0, 0), one(0, 0, 9, 0));
            due("of(0, 5), by 1", x.of(0, 5), 1);
            due("house()", read(x, "shun 1 p=0"), 0);
            due("of(0, 5), by 0", x.of(0, 5), MISSING);
            due("of(1, 5), by 1", x.of(1, 5), 0);
            due("house()", read(x, "shun 2 p=0"), 1);
            due("of(0, 5), by -1", x.of(0, 5), MISSING);
        });
        term(1, "(of several the first)", () -> {
            FootmenMatch x = mere(6);
            due("of(0, 5)", x.of(0, 5), 1);
            for (int i = 1; i < 6; i++) {
                due("of(" + i + ", 5)", x.of(i, 5), 0);
            }
            x.set(0, 0, 9);
            due("of(5, 5), the first of four", x.of(5, 5), 1);
            due("of(0, 5), the first of five as far", x.of(0, 5), 1);
        });
        term(1, "none, if there is none, or it is AWAY itself", () -> {
            FootmenMatch x = mere(2);
            due("of(0, 5)", x.of(0, 5), 1);
            x.away(0, true);
            due("of(0, 5), AWAY itself", x.of(0, 5), MISSING);
            due("of(1, 5), there is none", x.of(1, 5), MISSING);
            x.away(1, true);
            due("of(0, 5), both", x.of(0, 5), MISSING);
            x.away(0, false);
            x.away(1, false);
            due("of(0, 5), back", x.of(0, 5), 1);
        });
    }

    /** NEXT of one beside its LEADER, and what it comes to by a STEP; the ROW of a TOLD one is 1 3 5 7. */
    private static int next(int kind, int v, int own, int his, int apart, int step) {
        FootmenMatch x = of(one(kind, v, 0, own));
        for (int k = 0; k < 4 && kind == 6; k++) {
            x.row(0, k, 2 * k + 1);
        }
        goTo(x, step);
        add(x, one(0, 0, apart, his));
        int next = x.of(0, 6);
        due("on(1, 10), NEXT", x.on(1, 10), next);
        due("pass(1)", x.pass(1), step < 9999 ? step + 1 : STATE);
        due("of(0, 3), NEXT by a STEP", x.of(0, 3), step < 9999 ? next : own);
        return next;
    }

    private static void nexts() {
        term(1, "(a STATE; its own, if it has no LEADER)", () -> {
            for (int kind = 0; kind < 7; kind++) {
                FootmenMatch x = of(one(kind, 9, 0, 4));
                x.row(0, 0, 3);
                due("of(0, 6), alone, KIND " + kind, x.of(0, 6), 4);
                add(x, one(0, 0, 0, 9));
                x.away(0, true);
                due("of(0, 6), AWAY, KIND " + kind, x.of(0, 6), 4);
                x.pass(1);
                due("of(0, 3), AWAY, KIND " + kind, x.of(0, 3), 4);
            }
        });
        term(1, "MAN: the LEADER's STATE.", () -> {
            due("of 7 by 3", next(0, 0, 7, 3, 9, 0), 3);
            due("of 0 by 9", next(0, 0, 0, 9, 9, 1), 9);
            due("of 9 by 0", next(0, 0, 9, 0, 0, 5), 0);
        });
        term(1, "PIOUS: the greater of that and its own.", () -> {
            due("of 7 by 6", next(1, 0, 7, 6, 0, 0), 7);
            due("of 6 by 7", next(1, 0, 6, 7, 0, 1), 7);
            due("of 5 by 5", next(1, 0, 5, 5, 0, 5), 5);
            due("of 0 by 0", next(1, 0, 0, 0, 0, 0), 0);
            due("of 9 by 9", next(1, 0, 9, 9, 0, 10), 9);
        });
        term(1, "LENT: the LEADER's, if STEP is even, else its own.", () -> {
            due("STEP 0", next(2, 0, 7, 3, 0, 0), 3);
            due("STEP 1", next(2, 0, 7, 3, 0, 1), 7);
            due("STEP 2", next(2, 0, 7, 3, 9, 2), 3);
            due("STEP 9998", next(2, 0, 7, 3, 0, 9998), 3);
            due("STEP 9999", next(2, 0, 7, 3, 0, 9999), 7);
        });
        term(1, "STOUT: the half (cut) of both together.", () -> {
            due("of 0 by 0", next(3, 0, 0, 0, 0, 0), 0);
            due("of 0 by 1", next(3, 0, 0, 1, 0, 1), 0);
            due("of 1 by 0", next(3, 0, 1, 0, 0, 2), 0);
            due("of 1 by 1", next(3, 0, 1, 1, 0, 3), 1);
            due("of 1 by 2", next(3, 0, 1, 2, 0, 4), 1);
            due("of 8 by 9", next(3, 0, 8, 9, 0, 5), 8);
            due("of 9 by 9", next(3, 0, 9, 9, 0, 6), 9);
        });
        term(1, "BEADLE: as PIOUS; 1 more (9 at most), if STEP is a multiple of 5.", () -> {
            for (int step = 0; step < 12; step++) {
                int more = step == 0 || step == 5 || step == 10 ? 1 : 0;
                due("of 7 by 3, STEP " + step, next(4, 0, 7, 3, 0, step), 7 + more);
                due("of 3 by 8, STEP " + step, next(4, 0, 3, 8, 0, step), 8 + more);
                due("of 3 by 9, STEP " + step, next(4, 0, 3, 9, 0, step), 9);
                due("of 9 by 0, STEP " + step, next(4, 0, 9, 0, 0, step), 9);
            }
        });
        term(1, "FAR: as LENT; its own, if the ROOM of its LEADER is more than v APART.", () -> {
            for (int v = 0; v < 10; v++) {
                for (int apart = 0; apart < 10; apart++) {
                    due("v " + v + ", " + apart + " APART", next(5, v, 7, 3, apart, 0), apart > v ? 7 : 3);
                }
                due("v " + v + ", STEP 1", next(5, v, 7, 3, 0, 1), 7);
            }
        });
        term(1, "TOLD: as STOUT, and its ROW at STEP modulo 4 more, modulo 10.", () -> {
            int[] row = {1, 3, 5, 7};
            for (int step = 0; step < 9; step++) {
                due("of 0 by 1, STEP " + step, next(6, 0, 0, 1, 0, step), row[step % 4]);
                due("of 4 by 5, STEP " + step, next(6, 0, 4, 5, 0, step), (4 + row[step % 4]) % 10);
                due("of 9 by 9, STEP " + step, next(6, 0, 9, 9, 0, step), (9 + row[step % 4]) % 10);
            }
        });
    }

    private static void steps() {
        term(1, "A STEP goes, by how all is ahead of it: STATE of each is what is NEXT of it.", () -> {
            FootmenMatch x = of(one(0, 0, 0, 1), one(0, 0, 0, 2), one(0, 0, 9, 5));
            x.pass(1);
            due("of(0, 3), the two change theirs", x.of(0, 3), 2);
            due("of(1, 3)", x.of(1, 3), 1);
            due("of(2, 3), what 0 was", x.of(2, 3), 1);
        });
        term(1, "STEP is 1 more.", () -> {
            due("pass(1), nobody", mere(0).pass(1), 1);
            FootmenMatch x = of(one(0, 0, 0, 1), one(2, 0, 0, 2));
            due("pass(1)", x.pass(1), 1);
            due("of(1, 3), by STEP 0", x.of(1, 3), 1);
            due("pass(1)", x.pass(1), 2);
            due("told(0)", x.told(0), 2);
        });
        term(1, "UNLIKE: how many STATES there are among those not AWAY.", () -> {
            FootmenMatch x = new FootmenMatch();
            due("told(2), nobody", x.told(2), 0);
            for (int i = 0; i < 6; i++) {
                x.man(0, 0, 0, i == 5 ? 9 : i);
                due("told(2)", x.told(2), i + 1);
            }
            for (int i = 0; i < 6; i++) {
                x.away(i, true);
                due("told(2)", x.told(2), 5 - i);
            }
            x = mere(6);
            due("told(2), all alike", x.told(2), 1);
            x.set(3, 1, 9);
            due("told(2), one is not", x.told(2), 2);
            x.away(0, true);
            due("told(2), others are in the STATE of one AWAY", x.told(2), 2);
            x.away(3, true);
            due("told(2), nobody else is", x.told(2), 1);
        });
    }
}
