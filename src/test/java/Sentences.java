import java.util.TreeSet;
import java.util.function.Consumer;
import java.util.function.IntUnaryOperator;

/** What the tests by hand share; in those of boundaries each sentence is tried by itself, on a new object. */
abstract class Sentences {
    static final int BEYOND = -1000000001;
    static final int NONE = -1000000002;
    static final int STATE = -1000000003;
    static final int FULL = -1000000004;
    static final int KIND = -1000000005;
    static final int PARTED = -1000000006;
    static final int MIN = Integer.MIN_VALUE;
    static final int MAX = Integer.MAX_VALUE;

    private static final TreeSet<Integer> tried = new TreeSet<>();
    private static String sentence = "";
    private static int sentences = 0;
    private static int answers = 0;
    private static int wrong = 0;

    /** A sentence of a promise that names a boundary. */
    static void promise(int number, String says, Consumer<IceType> calls) {
        hold("promise " + number, number, says, calls);
    }

    /** A sentence of the Terms that names a boundary; 0 is what stands ahead of their points. */
    static void point(int number, String says, Consumer<IceType> calls) {
        hold("point " + number, number, says, calls);
    }

    private static void hold(String where, int number, String says, Consumer<IceType> calls) {
        sentence = where + ", '" + says + "'";
        tried.add(number);
        sentences++;
        int ahead = answers;
        calls.accept(new IceType());
        if (answers == ahead) {
            fail("asks nothing");
        }
    }

    static void due(int got, int want) {
        answers++;
        if (got != want) {
            fail("answered " + got + ", due is " + want);
        }
    }

    static void fail(String what) {
        wrong++;
        System.out.println(sentence + " (" + place() + "): " + what);
    }

    private static String place() {
        return StackWalker.getInstance().walk(frames -> frames
            .filter(frame -> !frame.getClassName().equals("Sentences")).findFirst()
            .map(frame -> frame.getFileName() + ":" + frame.getLineNumber()).orElse("?"));
    }

    /** A number that may be least .. most: just outside, and far outside, it is BEYOND. */
    static void beyond(int least, int most, IntUnaryOperator call) {
        for (int v : new int[] {least - 1, most + 1, MIN, MIN + 1, MAX - 1, MAX}) {
            due(call.applyAsInt(v), BEYOND);
        }
    }

    /** Ends with 1 if a sentence did not hold, or if a promise (or point) first .. last, but those, had none. */
    static void end(int first, int last, int... but) {
        for (int number : but) {
            tried.add(number);
        }
        for (int number = first; number <= last; number++) {
            if (!tried.contains(number)) {
                wrong++;
                System.out.println("no sentence of " + number + " was tried");
            }
        }
        System.out.println(sentences + " sentences, " + answers + " answers, " + wrong + " not as due");
        if (wrong != 0) {
            System.exit(1);
        }
    }

    /** Eight bytes a call: an object is good for 512 calls alone. */
    static int feed(IceType x, String bytes) {
        int there = 0;
        for (int from = 0; from < bytes.length(); from += 8) {
            int n = Math.min(8, bytes.length() - from);
            long word = 0;
            for (int i = n - 1; i >= 0; i--) {
                word = word << 8 | bytes.charAt(from + i);
            }
            there = x.feed(word, n);
        }
        return there;
    }

    static int text(IceType x, int use, String bytes) {
        feed(x, bytes);
        return x.text(use);
    }

    static int word(IceType x, String bytes) {
        feed(x, bytes);
        return x.word();
    }

    static int decree(IceType x, String bytes) {
        feed(x, bytes);
        return x.decree();
    }

    static int toldOfAll(IceType x) {
        int all = 0;
        for (int k = 1; k <= 6; k++) {
            all += x.told(k);
        }
        return all;
    }

    /** So many plain letters of as much ice each, in no page. */
    static void castSome(IceType x, int n, int ice) {
        for (int i = 0; i < n; i++) {
            x.cast(0, 1, ice);
        }
    }

    /** A row of numbers comes to a plate that has just as many. */
    static void plate(IceType x, int sheet, int bits, int... numbers) {
        x.sheet(sheet, bits, numbers.length);
        for (int i = 0; i < numbers.length; i++) {
            x.put(sheet, i, numbers[i]);
        }
    }
}
