import java.io.IOException;
import java.nio.charset.StandardCharsets;
import java.nio.file.Files;
import java.nio.file.Path;
import java.util.HashSet;
import java.util.Set;

/** What the tests of single sentences share: each test is told with the words of the document that it holds to. */
class Sentences {
    static final int LOW = Integer.MIN_VALUE, HIGH = Integer.MAX_VALUE;
    static final int NONE = -1, BAD = -2, STATE = -3, FULL = -4, MISSING = -5;
    static final long NO = Long.MIN_VALUE;

    private static final Path DOCUMENT = Path.of("../shared/DOC.md");
    private static final Set<String> told = new HashSet<>();
    private static String document;
    private static String sentence;
    private static int looks;
    private static int wrong;

    /** A test of a sentence in one of the three parts of the terms. */
    static void term(int part, String words, Runnable test) {
        sentence("==== " + part + " ", words, test);
    }

    /** A test of a sentence in the section of a promise. */
    static void promise(int number, String words, Runnable test) {
        sentence("## Promise " + number + ": ", words, test);
    }

    /** No promise is without a test. */
    static void everyPromise(int last) {
        for (int number = 1; number <= last; number++) {
            String head = "## Promise " + number + ": ";
            if (told.stream().noneMatch(test -> test.startsWith(head))) {
                sentence = head;
                wrong("it has no test");
            }
        }
    }

    private static void sentence(String head, String words, Runnable test) {
        sentence = head + "\"" + words + "\"";
        if (!section(head).contains(words)) {
            wrong("it does not stand there");
        }
        if (!told.add(sentence)) {
            wrong("it has two tests");
        }
        looks = 0;
        test.run();
        if (looks == 0) {
            wrong("its test looks at nothing");
        }
    }

    /** What the document says behind a head, up to the next one. */
    private static String section(String head) {
        int begin = document().indexOf(head);
        return begin < 0 ? "" : document().substring(begin + head.length()).split("====|## ")[0];
    }

    private static String document() {
        if (document == null) {
            try {
                document = Files.readString(DOCUMENT, StandardCharsets.UTF_8).replaceAll("\\s+", " ");
            } catch (IOException e) {
                throw new IllegalStateException(e);
            }
        }
        return document;
    }

    private static void wrong(String how) {
        wrong++;
        System.out.println(sentence + ": " + how);
    }

    static void due(String call, long got, long want) {
        looks++;
        if (got != want) {
            wrong(call + " answered " + got + ", due is " + want);
        }
    }

    static void same(String what, String got, String want) {
        looks++;
        if (!got.equals(want)) {
            wrong(what + " is\n  " + got + ", due is\n  " + want);
        }
    }

    static void end() {
        System.out.println(wrong == 0 ? told.size() + " sentences hold" : wrong + " answers are not as told");
        if (wrong != 0) {
            System.exit(1);
        }
    }

    static int[] one(int kind, int v, int room, int state) {
        return new int[] {kind, v, room, state};
    }

    static void add(FootmenMatch x, int[]... men) {
        for (int[] man : men) {
            due("man()", x.man(man[0], man[1], man[2], man[3]), x.count(0) - 1);
        }
    }

    static FootmenMatch of(int[]... men) {
        FootmenMatch x = new FootmenMatch();
        add(x, men);
        return x;
    }

    /** So many MEN, all in ROOM 0 and STATE 0. */
    static FootmenMatch mere(int men) {
        FootmenMatch x = new FootmenMatch();
        for (int i = 0; i < men; i++) {
            add(x, one(0, 0, 0, 0));
        }
        return x;
    }

    static void write(FootmenMatch x, String text) {
        for (int i = 0; i < text.length(); i++) {
            x.feed(text.charAt(i));
        }
    }

    static int read(FootmenMatch x, String text) {
        write(x, text);
        return x.house();
    }

    static void stands(String text) {
        due("house() by " + text, read(new FootmenMatch(), text), 0);
    }

    /** The FAULT is told by what stands ahead of it. */
    static void fault(String good, String rest) {
        due("house() by " + good + "_" + rest, read(new FootmenMatch(), good + rest), -10 - good.length());
    }

    /** STEPS go till STEP is so. */
    static void goTo(FootmenMatch x, int step) {
        for (int left = step - x.told(0); left > 0; left -= 60) {
            x.pass(Math.min(60, left));
        }
        due("told(0)", x.told(0), step);
    }

    /** All that can be told of an object without changing it, but THE TRACE and what THE TAPE's signs are. */
    static String portrait(FootmenMatch x) {
        StringBuilder text = new StringBuilder();
        for (int what = 0; what < 6; what++) {
            text.append(what == 0 ? "counts " : ",").append(x.count(what));
        }
        text.append("; step ").append(x.told(0)).append(" reach ").append(x.told(1)).append(" away ").append(x.told(4));
        for (int i = 0; i < x.count(0); i++) {
            text.append("; ").append(i).append(':');
            for (int what = 0; what < 7; what++) {
                text.append(' ').append(x.of(i, what));
            }
            for (int k = 0; k < 4 && x.of(i, 0) == 6; k++) {
                int n = x.row(i, k, 0);
                text.append(k == 0 ? " row " : ",").append(n);
                x.row(i, k, Math.max(n, 0));
            }
            for (int other = 0; other < x.count(0); other++) {
                text.append(other == 0 ? " pulls " : ",").append(x.pull(i, other));
            }
            text.append(" seen ").append(x.states(i)).append(',').append(x.where(i)).append(',').append(x.firm(i, 0));
        }
        text.append("; done ").append(x.done(0)).append(',').append(x.done(1)).append(" looked ").append(x.looked());
        return text.toString();
    }
}
