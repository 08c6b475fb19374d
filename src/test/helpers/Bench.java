import java.math.BigInteger;
import java.util.NoSuchElementException;

/** What the tests of the project share: checks that count what is wrong, and longer dealings with a desk. */
class Bench {
    static final int SYNTAX = GradientDesk.SYNTAX;
    static final int UNKNOWN = GradientDesk.UNKNOWN;
    static final int LARGE = GradientDesk.LARGE;
    static final int FULL = GradientDesk.FULL;

    static final int LEAST = Integer.MIN_VALUE;
    static final int MOST = Integer.MAX_VALUE;

    private static int wrong = 0;
    private static String promise = "";

    interface Call {
        void run();
    }

    /** What the checks that follow are about, as it is told when one fails. */
    static void about(String words) {
        promise = words;
    }

    static void end(String whenGood) {
        System.out.println(wrong == 0 ? whenGood : wrong + " answers are not as due");
        if (wrong != 0) {
            System.exit(1);
        }
    }

    // ---- checks

    static void due(String what, Object got, Object want) {
        if (!got.equals(want)) {
            wrong++;
            System.out.println("promise " + promise + ": " + what + " answered " + got + ", due is " + want);
        }
    }

    static String thrownBy(Call call) {
        try {
            call.run();
        } catch (RuntimeException e) {
            return e.getClass().getSimpleName();
        }
        return "nothing";
    }

    static void dueThrow(String what, Class<? extends RuntimeException> want, Call call) {
        due(what + " throws", thrownBy(call), want.getSimpleName());
    }

    static void dueIndex(String what, Call call) {
        dueThrow(what, IndexOutOfBoundsException.class, call);
    }

    static void dueArgument(String what, Call call) {
        dueThrow(what, IllegalArgumentException.class, call);
    }

    static void dueElement(String what, Call call) {
        dueThrow(what, NoSuchElementException.class, call);
    }

    static void dueState(String what, Call call) {
        dueThrow(what, IllegalStateException.class, call);
    }

    // ---- dealings with a desk

    static long packed(String piece) {
        long w = 0;
        for (int i = 0; i < piece.length(); i++) {
            w |= (long) piece.charAt(i) << (8 * i);
        }
        return w;
    }

    static void typeAll(GradientDesk desk, String text) {
        for (int from = 0; from < text.length(); from += 8) {
            String piece = text.substring(from, Math.min(text.length(), from + 8));
            desk.type(packed(piece), piece.length());
        }
    }

    static int define(GradientDesk desk, String text, int name) {
        typeAll(desk, text);
        return desk.define(name);
    }

    static String letters(GradientDesk desk, int length) {
        StringBuilder all = new StringBuilder();
        for (int i = 0; i < length; i++) {
            all.append((char) desk.written(i));
        }
        dueIndex("written behind the end", () -> desk.written(length));
        return all.toString();
    }

    static String written(GradientDesk desk, int name) {
        int length = desk.write(name);
        return length < 0 ? "answer " + length : letters(desk, length);
    }

    /** Reads no more words than the number has and one above, as a desk is used for at most 512 calls. */
    static BigInteger side(GradientDesk desk, int r, int which) {
        int bits = desk.bits(r, which);
        BigInteger all = BigInteger.ZERO;
        for (int i = Math.min(63, (bits + 31) / 32); i >= 0; i--) {
            all = all.shiftLeft(32).add(BigInteger.valueOf(desk.word(r, which, i) & 0xffffffffL));
        }
        due("bits(" + r + ", " + which + ")", bits, all.bitLength());
        return all;
    }

    static String result(GradientDesk desk, int r) {
        BigInteger p = side(desk, r, 0);
        return (desk.sign(r) < 0 ? p.negate() : p) + "/" + side(desk, r, 1);
    }

    static String results(GradientDesk desk, int from, int to) {
        StringBuilder all = new StringBuilder();
        for (int r = from; r <= to; r++) {
            all.append(r == from ? "" : " ").append(result(desk, r));
        }
        return all.toString();
    }

    /** All that part(i, 0) to part(i, 5) tell. */
    static String look(GradientDesk desk, int i) {
        StringBuilder all = new StringBuilder();
        for (int what = 0; what <= 5; what++) {
            all.append(what == 0 ? "" : " ").append(desk.part(i, what));
        }
        return all.toString();
    }

    /** A text on a new desk makes just these parts, each as look tells it. */
    static void checkParts(String text, String... parts) {
        GradientDesk desk = new GradientDesk();
        define(desk, text, 0);
        due("made by " + text, desk.made(), parts.length);
        for (int i = 0; i < Math.min(parts.length, desk.made()); i++) {
            due("part " + i + " of " + text, look(desk, i), parts[i]);
        }
    }

    /** Puts a number into a RESULT by way of an expression with the name H. */
    static void putResult(GradientDesk desk, String text, int r) {
        due(text + " is a number", desk.number(define(desk, text, 7), r), true);
    }

    /** Makes parts one by one, as ever longer sums of a with the name H, until there are that many. */
    static void fillTo(GradientDesk desk, int many) {
        if (!thrownBy(() -> desk.parts(7)).equals("nothing")) {
            define(desk, "a", 7);
        }
        for (int round = 0; round < 20 && desk.made() < many; round++) {
            define(desk, "H" + "+a".repeat(Math.min(31, many - desk.made())), 7);
        }
        due("made after filling", desk.made(), many);
    }

    // ---- fractions beside the desk

    static BigInteger[] ratio(long p, long q) {
        return reduced(BigInteger.valueOf(p), BigInteger.valueOf(q));
    }

    static BigInteger[] reduced(BigInteger p, BigInteger q) {
        BigInteger common = p.gcd(q);
        return new BigInteger[] {p.divide(common), q.divide(common)};
    }

    static BigInteger[] add(BigInteger[] x, BigInteger[] y) {
        return reduced(x[0].multiply(y[1]).add(y[0].multiply(x[1])), x[1].multiply(y[1]));
    }

    static BigInteger[] mul(BigInteger[] x, BigInteger[] y) {
        return reduced(x[0].multiply(y[0]), x[1].multiply(y[1]));
    }

    static BigInteger[] pow(BigInteger[] x, int n) {
        return new BigInteger[] {x[0].pow(n), x[1].pow(n)};
    }

    static String show(BigInteger[] x) {
        return x[0] + "/" + x[1];
    }
}
