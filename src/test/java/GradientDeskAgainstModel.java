import java.math.BigInteger;
import java.util.ArrayList;
import java.util.Arrays;
import java.util.BitSet;
import java.util.HashMap;
import java.util.List;
import java.util.Map;
import java.util.NoSuchElementException;
import java.util.Random;
import java.util.TreeSet;

/** Long runs of calls, always the same ones, on the desk and on a plain model of the document over BigInteger. */
public final class GradientDeskAgainstModel {
    private static final int RUNS = 1500;
    private static final int CALLS = 512;

    /** What a run leans to: few names, many parts, high powers, great numbers, long RESULTS. */
    private static final int NAMELESS = 0;
    private static final int CROWD = 1;
    private static final int POWERS = 2;
    private static final int GREAT = 3;
    private static final int LONG = 4;

    private static int wrong = 0;

    private interface Call {
        Object run();
    }

    public static void main(String[] args) {
        Tally tally = new Tally();
        for (int run = 0; run < RUNS && wrong == 0; run++) {
            new Driver(run, tally).drive();
        }
        if (wrong == 0) {
            tally.demandAll();
        }
        System.out.println(wrong == 0 ? "the desk answers as the model" : "the desk answers otherwise than the model");
        if (wrong != 0) {
            System.exit(1);
        }
    }

    /** How often each kind of answer was seen, so that no kind is left out unseen. */
    private static final class Tally {
        private static final String[] NEEDED = {"define SYNTAX", "define UNKNOWN", "define LARGE", "define FULL", "define part",
            "derive LARGE", "derive FULL", "derive part", "write LARGE", "write number", "reckon false", "reckon true",
            "type IllegalStateException", "type IllegalArgumentException", "derive NoSuchElementException",
            "part IndexOutOfBoundsException", "part IllegalArgumentException", "number true", "number false",
            "word IndexOutOfBoundsException", "bits number", "bits above 700"};
        private final Map<String, Integer> seen = new HashMap<>();

        void add(String method, Object answer) {
            seen.merge(method + " " + kindOf(method, answer), 1, Integer::sum);
            if (method.equals("bits") && answer instanceof Integer && (Integer) answer > 700) {
                seen.merge("bits above 700", 1, Integer::sum);
            }
        }

        private static String kindOf(String method, Object answer) {
            if (!(answer instanceof Integer)) {
                return String.valueOf(answer);
            }
            int number = (Integer) answer;
            if (method.equals("define") || method.equals("derive") || method.equals("write")) {
                switch (number) {
                    case -1:
                        return "SYNTAX";
                    case -2:
                        return "UNKNOWN";
                    case -3:
                        return "LARGE";
                    case -4:
                        return "FULL";
                    default:
                        return method.equals("write") ? "number" : "part";
                }
            }
            return "number";
        }

        void demandAll() {
            for (String needed : NEEDED) {
                if (seen.getOrDefault(needed, 0) < 20) {
                    wrong++;
                    System.out.println("the runs hardly ever have: " + needed + " (" + seen.getOrDefault(needed, 0) + ")");
                }
            }
        }
    }

    // ---- the runs

    private static final class Driver {
        private final GradientDesk desk = new GradientDesk();
        private final Model model = new Model();
        private final List<String> log = new ArrayList<>();
        private final Random random;
        private final Tally tally;
        private final int run;
        private final int style;
        private int calls = 0;

        Driver(int run, Tally tally) {
            this.run = run;
            this.tally = tally;
            this.random = new Random(run);
            this.style = random.nextInt(5);
        }

        void drive() {
            while (calls < CALLS && wrong == 0) {
                step();
            }
        }

        private void check(String method, String call, Call real, Call due) {
            calls++;
            look(method, call, real, due);
        }

        /** A call that changes nothing, and that is not counted, so that the runs get far. */
        private void look(String method, String call, Call real, Call due) {
            if (wrong > 0) {
                return;
            }
            Object got = outcome(real);
            Object want = outcome(due);
            tally.add(method, want);
            log.add(call + " = " + want);
            if (!got.equals(want)) {
                wrong++;
                System.out.println("run " + run + ", call " + calls + ": " + call + " answered " + got + ", due is " + want);
                for (String line : log.subList(Math.max(0, log.size() - 40), log.size())) {
                    System.out.println("    " + line);
                }
            }
        }

        private static Object outcome(Call call) {
            try {
                return call.run();
            } catch (RuntimeException e) {
                return e.getClass().getSimpleName();
            }
        }

        private int chance(int usual, int... odd) {
            return random.nextInt(40) == 0 ? odd[random.nextInt(odd.length)] : usual;
        }

        private int name() {
            return chance(random.nextInt(8), -1, 8, 100, Integer.MIN_VALUE, Integer.MAX_VALUE);
        }

        private int result() {
            return chance(random.nextInt(8), -1, 8, Integer.MIN_VALUE, Integer.MAX_VALUE);
        }

        private int variable() {
            return chance(random.nextInt(3), -1, 3, Integer.MIN_VALUE, Integer.MAX_VALUE);
        }

        private void step() {
            int dice = random.nextInt(100);
            if (style == CROWD && random.nextInt(3) > 0) {
                dice = random.nextInt(45);
            } else if (style == LONG && random.nextInt(3) > 0) {
                dice = 28 + random.nextInt(46);
            }
            if (dice < 28) {
                defineText();
            } else if (dice < 36) {
                derive();
            } else if (dice < 40) {
                set();
            } else if (dice < 48) {
                gradient();
            } else if (dice < 54) {
                along();
            } else if (dice < 64) {
                reckon();
            } else if (dice < 70) {
                write();
            } else if (dice < 74) {
                numberOfPart();
            } else if (dice < 80) {
                lookAtPart();
            } else if (dice < 99) {
                smallLook();
            } else if (random.nextInt(style == CROWD ? 40 : 3) == 0) {
                check("clear", "clear()", () -> {
                    desk.clear();
                    return "";
                }, () -> {
                    model.clear();
                    return "";
                });
            }
        }

        private void defineText() {
            String text = new Writer(random, style).text();
            for (int from = 0; from < text.length(); from += 8) {
                String piece = text.substring(from, Math.min(from + 8, text.length()));
                type(piece);
            }
            if (random.nextInt(15) == 0) {
                type("aaaaaaaa".substring(random.nextInt(8)));
            }
            int name = name();
            check("define", "define(" + name + ")", () -> desk.define(name), () -> model.define(name));
            look("place", "place()", desk::place, model::place);
            look("made", "made()", desk::made, model::made);
        }

        private void type(String piece) {
            long packed = random.nextInt(3) == 0 ? random.nextLong() : 0;
            for (int i = 0; i < piece.length(); i++) {
                packed &= ~(255L << (8 * i));
                packed |= (long) piece.charAt(i) << (8 * i);
            }
            if (random.nextInt(100) == 0) {
                packed ^= random.nextLong();
            }
            long w = packed;
            int n = chance(piece.length(), 0, 9, -1, 8, Integer.MIN_VALUE);
            check("type", "type(\"" + piece + "\" " + w + ", " + n + ")", () -> desk.type(w, n), () -> model.type(w, n));
        }

        private void derive() {
            int of = name();
            int variable = variable();
            int name = name();
            check("derive", "derive(" + of + ", " + variable + ", " + name + ")", () -> desk.derive(of, variable, name),
                    () -> model.derive(of, variable, name));
            look("made", "made()", desk::made, model::made);
        }

        private void set() {
            int variable = variable();
            boolean great = random.nextBoolean();
            int p = chance(great ? random.nextInt(19999) - 9999 : random.nextInt(9) - 4, -9999, 9999, 10000, -10000, 0);
            int q = chance(great ? 1 + random.nextInt(9999) : 1 + random.nextInt(4), 0, -1, 10000, 9999, 1);
            check("set", "set(" + variable + ", " + p + ", " + q + ")", () -> {
                desk.set(variable, p, q);
                return "";
            }, () -> {
                model.set(variable, p, q);
                return "";
            });
        }

        private void gradient() {
            int name = name();
            check("gradient", "gradient(" + name + ")", () -> {
                desk.gradient(name);
                return "";
            }, () -> {
                model.gradient(name);
                return "";
            });
            lookAtResult(random.nextInt(4));
            lookAtResult(random.nextInt(4));
        }

        private void along() {
            int name = name();
            int x = chance(random.nextInt(1999) - 999, 0, 1, -1, 999, -999, 1000, -1000);
            int y = chance(random.nextInt(1999) - 999, 0, 1, -1, 999, -999, 1000, -1000);
            int z = chance(random.nextInt(1999) - 999, 0, 1, -1, 999, -999, 1000, -1000);
            check("along", "along(" + name + ", " + x + ", " + y + ", " + z + ")", () -> {
                desk.along(name, x, y, z);
                return "";
            }, () -> {
                model.along(name, x, y, z);
                return "";
            });
            lookAtResult(4 + random.nextInt(2));
        }

        private void reckon() {
            boolean stretched = style == LONG && random.nextInt(4) > 0;
            int what = chance(stretched && random.nextInt(3) > 0 ? 2 : random.nextInt(3), -1, 3);
            int r = result();
            int i = stretched ? longResult() : result();
            int j = stretched && random.nextBoolean() ? longResult() : result();
            check("reckon", "reckon(" + what + ", " + r + ", " + i + ", " + j + ")", () -> desk.reckon(what, r, i, j),
                    () -> model.reckon(what, r, i, j));
            if (r >= 0 && r < 8) {
                lookAtResult(r);
            }
        }

        private void lookAtResult(int r) {
            for (int which = 0; which < 2; which++) {
                BigInteger all = BigInteger.ZERO;
                for (int i = 63; i >= 0; i--) {
                    all = all.shiftLeft(32).add(BigInteger.valueOf(desk.word(r, which, i) & 0xffffffffL));
                }
                BigInteger found = all;
                int side = which;
                look("side", "RESULT " + r + " side " + which, () -> found, () -> model.side(r, side).abs());
                look("bits", "bits(" + r + ", " + which + ")", () -> desk.bits(r, side), () -> model.bits(r, side));
            }
            look("sign", "sign(" + r + ")", () -> desk.sign(r), () -> model.sign(r));
        }

        /** Mostly the longest RESULT that can still be reckoned with. */
        private int longResult() {
            int best = random.nextInt(8);
            int most = 0;
            for (int r = 0; r < 8; r++) {
                int bits = Math.max(model.bits(r, 0), model.bits(r, 1));
                if (bits > most && (bits <= 1000 || random.nextInt(30) == 0)) {
                    best = r;
                    most = bits;
                }
            }
            return best;
        }

        private void write() {
            int name = name();
            check("write", "write(" + name + ")", () -> desk.write(name), () -> model.write(name));
            look("letters", "all that is written", () -> {
                StringBuilder all = new StringBuilder();
                for (int i = 0; i < model.writing.length(); i++) {
                    all.append((char) desk.written(i));
                }
                return all.toString();
            }, () -> model.writing);
            int i = chance(random.nextInt(model.writing.length() + 1), -1, model.writing.length(), 250, Integer.MIN_VALUE);
            look("written", "written(" + i + ")", () -> desk.written(i), () -> model.written(i));
        }

        private int partIndex() {
            return chance(random.nextInt(Math.max(model.made(), 1)), -1, model.made(), 199, 200, Integer.MIN_VALUE);
        }

        private void numberOfPart() {
            int i = partIndex();
            int r = result();
            check("number", "number(" + i + ", " + r + ")", () -> desk.number(i, r), () -> model.number(i, r));
            if (r >= 0 && r < 8) {
                lookAtResult(r);
            }
        }

        private void lookAtPart() {
            int i = partIndex();
            for (int k = 0; k < 3; k++) {
                int what = chance(random.nextInt(6), -1, 6, Integer.MIN_VALUE);
                look("part", "part(" + i + ", " + what + ")", () -> desk.part(i, what), () -> model.part(i, what));
            }
        }

        private void smallLook() {
            int i = result();
            int j = result();
            int which = chance(random.nextInt(2), -1, 2);
            int at = chance(random.nextInt(64), -1, 64, 63, 0);
            int name = name();
            switch (random.nextInt(5)) {
                case 0:
                    look("compare", "compare(" + i + ", " + j + ")", () -> desk.compare(i, j), () -> model.compare(i, j));
                    break;
                case 1:
                    look("sign", "sign(" + i + ")", () -> desk.sign(i), () -> model.sign(i));
                    break;
                case 2:
                    look("bits", "bits(" + i + ", " + which + ")", () -> desk.bits(i, which), () -> model.bits(i, which));
                    break;
                case 3:
                    look("word", "word(" + i + ", " + which + ", " + at + ")", () -> desk.word(i, which, at),
                            () -> model.word(i, which, at));
                    break;
                default:
                    look("parts", "parts(" + name + ")", () -> desk.parts(name), () -> model.parts(name));
            }
        }
    }

    /** Writes texts, most of them in the grammar. */
    private static final class Writer {
        private final Random random;
        private final int style;
        private final StringBuilder out = new StringBuilder();

        Writer(Random random, int style) {
            this.random = random;
            this.style = style;
        }

        String text() {
            if ((style == GREAT || style == LONG) && random.nextInt(3) == 0) {
                return product();
            }
            int most = 1 + random.nextInt(style == CROWD ? 62 : 40);
            sum(most, 0);
            if (random.nextInt(8) == 0) {
                spoil();
            }
            return out.length() > 64 ? out.substring(0, 64) : out.toString();
        }

        /** Products and powers of names and great numbers, which soon come near the limits of the sizes. */
        private String product() {
            number();
            for (int k = random.nextInt(3); k >= 0; k--) {
                out.append("+*".charAt(random.nextInt(2)));
                if (random.nextBoolean()) {
                    out.append((char) ('A' + random.nextInt(8)));
                } else {
                    out.append("((a+b*").append(1000 + random.nextInt(9000));
                    out.append(random.nextBoolean() ? "/9973" : "/1").append(")^").append(1 + random.nextInt(3)).append(')');
                }
            }
            return out.toString();
        }

        private void spoil() {
            String odd = "+-*/^()0123456789abcdABCHI ~";
            for (int k = 0; k <= random.nextInt(2); k++) {
                int at = random.nextInt(out.length() + 1);
                char letter = odd.charAt(random.nextInt(odd.length()));
                switch (random.nextInt(3)) {
                    case 0:
                        out.insert(at, letter);
                        break;
                    case 1:
                        out.delete(at, Math.min(out.length(), at + 1 + random.nextInt(3)));
                        break;
                    default:
                        out.setLength(at);
                        out.append(letter);
                }
            }
        }

        private void sum(int most, int depth) {
            int end = out.length() + most;
            term(most, depth);
            while (out.length() + 2 < end && random.nextInt(5) > 0) {
                out.append(random.nextBoolean() ? '+' : '-');
                term(end - out.length(), depth);
            }
        }

        private void term(int most, int depth) {
            int end = out.length() + most;
            factor(most, depth);
            while (out.length() + 2 < end && random.nextInt(3) == 0) {
                out.append('*');
                factor(end - out.length(), depth);
            }
        }

        private void factor(int most, int depth) {
            while (random.nextInt(12) == 0) {
                out.append('-');
            }
            int dice = random.nextInt(10);
            if (dice < 2 && most > 6 && depth < 8) {
                out.append('(');
                sum(most - 4, depth + 1);
                out.append(')');
            } else if (dice < 6) {
                out.append((char) ('a' + random.nextInt(3)));
            } else if (dice < 8 && style != NAMELESS) {
                out.append((char) ('A' + random.nextInt(8)));
            } else {
                number();
            }
            if (random.nextInt(5) == 0) {
                out.append('^').append(style == POWERS || style == GREAT ? random.nextInt(10) : random.nextInt(4));
            }
        }

        private void number() {
            boolean great = style == GREAT || style == LONG || random.nextInt(style == CROWD ? 2 : 6) == 0;
            out.append(great ? random.nextInt(10000) : random.nextInt(5));
            if (random.nextInt(3) == 0) {
                out.append('/').append(great ? 1 + random.nextInt(9999) : 1 + random.nextInt(4));
            }
        }
    }

    // ---- the model

    private static final class Ratio {
        final BigInteger p;
        final BigInteger q;

        Ratio(BigInteger p, BigInteger q) {
            BigInteger common = p.gcd(q);
            this.p = p.divide(common);
            this.q = q.divide(common);
        }

        static Ratio of(long p, long q) {
            return new Ratio(BigInteger.valueOf(p), BigInteger.valueOf(q));
        }

        Ratio plus(Ratio y) {
            return new Ratio(p.multiply(y.q).add(y.p.multiply(q)), q.multiply(y.q));
        }

        Ratio minus(Ratio y) {
            return plus(new Ratio(y.p.negate(), y.q));
        }

        Ratio times(Ratio y) {
            return new Ratio(p.multiply(y.p), q.multiply(y.q));
        }

        Ratio power(int n) {
            return new Ratio(p.pow(n), q.pow(n));
        }

        boolean is(int n) {
            return p.equals(BigInteger.valueOf(n)) && q.equals(BigInteger.ONE);
        }

        String show() {
            return q.equals(BigInteger.ONE) ? p.toString() : p + "/" + q;
        }
    }

    private static final class Node {
        int sort;
        int first = -1;
        int second = -1;
        int degree;
        int n;
        int d;
        Ratio ratio;

        String key() {
            return sort + " " + first + " " + second + " " + (ratio == null ? "" : ratio.show());
        }
    }

    /** What can't be made. */
    private static final class Stop extends RuntimeException {
        private static final long serialVersionUID = 1L;
        final int code;

        Stop(int code) {
            this.code = code;
        }
    }

    private static final class Model {
        private String text = "";
        private List<Node> nodes = new ArrayList<>();
        private Map<String, Integer> there = new HashMap<>();
        private final int[] names = new int[8];
        private final Ratio[] point = new Ratio[3];
        private final Ratio[] results = new Ratio[8];
        private int place = -1;
        String writing = "";
        private int cursor;

        Model() {
            Arrays.fill(names, -1);
            Arrays.fill(point, Ratio.of(0, 1));
            Arrays.fill(results, Ratio.of(0, 1));
        }

        int type(long w, int n) {
            demand(n >= 1 && n <= 8);
            StringBuilder more = new StringBuilder(text);
            for (int i = 0; i < n; i++) {
                char letter = (char) (w >> (8 * i) & 255);
                demand(letter >= 32 && letter <= 126);
                more.append(letter);
            }
            if (more.length() > 64) {
                throw new IllegalStateException();
            }
            text = more.toString();
            return text.length();
        }

        int define(int name) {
            demandName(name);
            String read = text;
            text = "";
            place = -1;
            if (!new Grammar(read).holds()) {
                place = Grammar.firstWrong(read);
                return -1;
            }
            for (char letter : read.toCharArray()) {
                if (letter >= 'A' && letter <= 'H' && names[letter - 'A'] < 0) {
                    return -2;
                }
            }
            return attempt(name, () -> {
                text = read;
                cursor = 0;
                try {
                    return sum();
                } finally {
                    text = "";
                }
            });
        }

        private interface Making {
            int make();
        }

        private int attempt(int name, Making making) {
            List<Node> nodesBefore = new ArrayList<>(nodes);
            Map<String, Integer> thereBefore = new HashMap<>(there);
            try {
                names[name] = making.make();
                return names[name];
            } catch (Stop stop) {
                nodes = nodesBefore;
                there = thereBefore;
                return stop.code;
            }
        }

        private char next() {
            return cursor < text.length() ? text.charAt(cursor) : '$';
        }

        private int sum() {
            int all = term();
            while (next() == '+' || next() == '-') {
                boolean minus = text.charAt(cursor++) == '-';
                int more = term();
                all = makeSum(all, minus ? negative(more) : more);
            }
            return all;
        }

        private int term() {
            int all = factor();
            while (next() == '*') {
                cursor++;
                int more = factor();
                all = makeProduct(all, more);
            }
            return all;
        }

        private int factor() {
            if (next() == '-') {
                cursor++;
                return negative(factor());
            }
            int atom = atom();
            if (next() == '^') {
                int exponent = text.charAt(cursor + 1) - '0';
                cursor += 2;
                return makePower(atom, exponent);
            }
            return atom;
        }

        private int atom() {
            char letter = next();
            if (letter == '(') {
                cursor++;
                int inner = sum();
                cursor++;
                return inner;
            }
            if (letter >= 'a') {
                cursor++;
                return makeVariable(letter - 'a');
            }
            if (letter >= 'A') {
                cursor++;
                return names[letter - 'A'];
            }
            int p = digits();
            int q = 1;
            if (next() == '/') {
                cursor++;
                q = digits();
            }
            return makeNumber(Ratio.of(p, q));
        }

        private int digits() {
            int from = cursor;
            while (Character.isDigit(next())) {
                cursor++;
            }
            return Integer.parseInt(text.substring(from, cursor));
        }

        private int negative(int x) {
            int minusOne = makeNumber(Ratio.of(-1, 1));
            return makeProduct(minusOne, x);
        }

        private int keep(Node node) {
            if (node.degree > 8 || node.n > 400 || node.d > 400) {
                throw new Stop(-3);
            }
            Integer same = there.get(node.key());
            if (same != null) {
                return same;
            }
            if (nodes.size() == 200) {
                throw new Stop(-4);
            }
            nodes.add(node);
            there.put(node.key(), nodes.size() - 1);
            return nodes.size() - 1;
        }

        private int makeNumber(Ratio ratio) {
            Node node = new Node();
            node.ratio = ratio;
            node.n = ratio.is(0) ? 1 : ratio.p.abs().bitLength();
            node.d = ratio.q.equals(BigInteger.ONE) ? 0 : ratio.q.bitLength();
            return keep(node);
        }

        private int makeVariable(int variable) {
            Node node = new Node();
            node.sort = 1;
            node.first = variable;
            node.degree = 1;
            node.n = 1;
            return keep(node);
        }

        private int makeSum(int i, int j) {
            Node x = nodes.get(i);
            Node y = nodes.get(j);
            if (x.ratio != null && y.ratio != null) {
                return makeNumber(x.ratio.plus(y.ratio));
            }
            if (x.ratio != null && x.ratio.is(0)) {
                return j;
            }
            if (y.ratio != null && y.ratio.is(0)) {
                return i;
            }
            Node node = pair(2, i, j);
            node.degree = Math.max(x.degree, y.degree);
            node.n = 1 + Math.max(x.n + y.d, y.n + x.d);
            node.d = x.d + y.d;
            return keep(node);
        }

        private int makeProduct(int i, int j) {
            Node x = nodes.get(i);
            Node y = nodes.get(j);
            if (x.ratio != null && y.ratio != null) {
                return makeNumber(x.ratio.times(y.ratio));
            }
            if (x.ratio != null && x.ratio.is(0)) {
                return i;
            }
            if (y.ratio != null && y.ratio.is(0)) {
                return j;
            }
            if (x.ratio != null && x.ratio.is(1)) {
                return j;
            }
            if (y.ratio != null && y.ratio.is(1)) {
                return i;
            }
            Node node = pair(3, i, j);
            node.degree = x.degree + y.degree;
            node.n = x.n + y.n + 8;
            node.d = x.d + y.d;
            return keep(node);
        }

        private int makePower(int i, int n) {
            Node x = nodes.get(i);
            if (n == 0) {
                return makeNumber(Ratio.of(1, 1));
            }
            if (n == 1) {
                return i;
            }
            if (x.ratio != null) {
                return makeNumber(x.ratio.power(n));
            }
            Node node = pair(4, i, n);
            node.degree = x.degree * n;
            node.n = n * (x.n + 8);
            node.d = n * x.d;
            return keep(node);
        }

        private static Node pair(int sort, int first, int second) {
            Node node = new Node();
            node.sort = sort;
            node.first = first;
            node.second = second;
            return node;
        }

        int place() {
            return place;
        }

        int derive(int of, int variable, int name) {
            demandName(of);
            demandName(name);
            demand(variable >= 0 && variable <= 2);
            demandKnown(of);
            int expression = names[of];
            return attempt(name, () -> {
                Map<Integer, Integer> slopes = new HashMap<>();
                for (int i : reach(expression)) {
                    slopes.put(i, slope(nodes.get(i), variable, slopes));
                }
                return slopes.get(expression);
            });
        }

        private int slope(Node node, int variable, Map<Integer, Integer> slopes) {
            int x = node.first;
            int y = node.second;
            switch (node.sort) {
                case 0:
                    return makeNumber(Ratio.of(0, 1));
                case 1:
                    return makeNumber(Ratio.of(x == variable ? 1 : 0, 1));
                case 2:
                    return makeSum(slopes.get(x), slopes.get(y));
                case 3:
                    int before = makeProduct(slopes.get(x), y);
                    int behind = makeProduct(x, slopes.get(y));
                    return makeSum(before, behind);
                default:
                    int factor = makeNumber(Ratio.of(y, 1));
                    int lower = makePower(x, y - 1);
                    int both = makeProduct(factor, lower);
                    return makeProduct(both, slopes.get(x));
            }
        }

        private TreeSet<Integer> reach(int from) {
            TreeSet<Integer> all = new TreeSet<>();
            List<Integer> open = new ArrayList<>(List.of(from));
            while (!open.isEmpty()) {
                int i = open.remove(open.size() - 1);
                if (all.add(i)) {
                    Node node = nodes.get(i);
                    if (node.sort >= 2) {
                        open.add(node.first);
                    }
                    if (node.sort == 2 || node.sort == 3) {
                        open.add(node.second);
                    }
                }
            }
            return all;
        }

        int made() {
            return nodes.size();
        }

        int parts(int name) {
            demandName(name);
            demandKnown(name);
            return reach(names[name]).size();
        }

        int part(int i, int what) {
            demandIndex(i, nodes.size());
            demand(what >= 0 && what <= 5);
            Node node = nodes.get(i);
            return new int[] {node.sort, node.first, node.second, node.degree, node.n, node.d}[what];
        }

        boolean number(int i, int r) {
            demandIndex(i, nodes.size());
            demandIndex(r, 8);
            Ratio ratio = nodes.get(i).ratio;
            results[r] = ratio == null ? Ratio.of(0, 1) : ratio;
            return ratio != null;
        }

        void clear() {
            nodes.clear();
            there.clear();
            Arrays.fill(names, -1);
        }

        void set(int variable, int p, int q) {
            demand(variable >= 0 && variable <= 2 && p >= -9999 && p <= 9999 && q >= 1 && q <= 9999);
            point[variable] = Ratio.of(p, q);
        }

        /** Value and the three derivatives, straight over fractions. */
        private Ratio[] jet(int expression) {
            Map<Integer, Ratio[]> jets = new HashMap<>();
            for (int i : reach(expression)) {
                Node node = nodes.get(i);
                Ratio[] jet = new Ratio[4];
                Arrays.fill(jet, Ratio.of(0, 1));
                Ratio[] x = jets.get(node.first);
                Ratio[] y = jets.get(node.second);
                switch (node.sort) {
                    case 0:
                        jet[0] = node.ratio;
                        break;
                    case 1:
                        jet[0] = point[node.first];
                        jet[1 + node.first] = Ratio.of(1, 1);
                        break;
                    case 2:
                        for (int k = 0; k < 4; k++) {
                            jet[k] = x[k].plus(y[k]);
                        }
                        break;
                    case 3:
                        jet[0] = x[0].times(y[0]);
                        for (int k = 1; k < 4; k++) {
                            jet[k] = x[k].times(y[0]).plus(x[0].times(y[k]));
                        }
                        break;
                    default:
                        jet[0] = x[0].power(node.second);
                        for (int k = 1; k < 4; k++) {
                            jet[k] = Ratio.of(node.second, 1).times(x[0].power(node.second - 1)).times(x[k]);
                        }
                }
                jets.put(i, jet);
            }
            return jets.get(expression);
        }

        void gradient(int name) {
            demandName(name);
            demandKnown(name);
            System.arraycopy(jet(names[name]), 0, results, 0, 4);
        }

        void along(int name, int x, int y, int z) {
            demandName(name);
            demand(Math.abs(x) <= 999 && Math.abs(y) <= 999 && Math.abs(z) <= 999);
            demandKnown(name);
            Ratio[] jet = jet(names[name]);
            results[4] = jet[0];
            results[5] = jet[1].times(Ratio.of(x, 1)).plus(jet[2].times(Ratio.of(y, 1))).plus(jet[3].times(Ratio.of(z, 1)));
        }

        boolean reckon(int what, int r, int i, int j) {
            demandIndex(r, 8);
            demandIndex(i, 8);
            demandIndex(j, 8);
            demand(what >= 0 && what <= 2);
            Ratio x = results[i];
            Ratio y = results[j];
            for (Ratio ratio : List.of(x, y)) {
                if (ratio.p.abs().bitLength() > 1000 || ratio.q.bitLength() > 1000) {
                    return false;
                }
            }
            results[r] = what == 0 ? x.plus(y) : what == 1 ? x.minus(y) : x.times(y);
            return true;
        }

        int compare(int i, int j) {
            demandIndex(i, 8);
            demandIndex(j, 8);
            return results[i].minus(results[j]).p.signum();
        }

        int sign(int r) {
            demandIndex(r, 8);
            return results[r].p.signum();
        }

        BigInteger side(int r, int which) {
            return which == 0 ? results[r].p : results[r].q;
        }

        int bits(int r, int which) {
            demandIndex(r, 8);
            demand(which == 0 || which == 1);
            return side(r, which).abs().bitLength();
        }

        int word(int r, int which, int i) {
            demandIndex(r, 8);
            demandIndex(i, 64);
            demand(which == 0 || which == 1);
            return side(r, which).abs().shiftRight(32 * i).intValue();
        }

        int write(int name) {
            demandName(name);
            demandKnown(name);
            String all = show(names[name]);
            if (all == null) {
                return -3;
            }
            writing = all;
            return all.length();
        }

        private String show(int i) {
            Node node = nodes.get(i);
            String all;
            if (node.sort == 0) {
                all = node.ratio.show();
            } else if (node.sort == 1) {
                all = "abc".substring(node.first, node.first + 1);
            } else {
                String x = show(node.first);
                String y = node.sort == 4 ? "" + node.second : x == null ? null : show(node.second);
                if (x == null || y == null) {
                    return null;
                }
                all = node.sort == 4 ? x + "^" + y : "(" + x + (node.sort == 2 ? "+" : "*") + y + ")";
            }
            return all.length() > 250 ? null : all;
        }

        int written(int i) {
            demandIndex(i, writing.length());
            return writing.charAt(i);
        }

        private void demandName(int name) {
            demand(name >= 0 && name <= 7);
        }

        private void demandKnown(int name) {
            if (names[name] < 0) {
                throw new NoSuchElementException();
            }
        }

        private static void demand(boolean holds) {
            if (!holds) {
                throw new IllegalArgumentException();
            }
        }

        private static void demandIndex(int i, int count) {
            if (i < 0 || i >= count) {
                throw new IndexOutOfBoundsException();
            }
        }
    }

    /** The grammar as it is written: from each place, all places where a phrase can end. */
    private static final class Grammar {
        private static final String[] ATOMS = {"", "a", "1"};
        private final String text;
        private final Map<Integer, BitSet> sums = new HashMap<>();

        Grammar(String text) {
            this.text = text;
        }

        boolean holds() {
            return sum(0).get(text.length());
        }

        /** The longest beginning that some more characters could still end well. */
        static int firstWrong(String text) {
            for (int length = 1; length <= text.length(); length++) {
                if (!canGoOn(text.substring(0, length))) {
                    return length - 1;
                }
            }
            return text.length();
        }

        private static boolean canGoOn(String begin) {
            for (String atom : ATOMS) {
                StringBuilder tried = new StringBuilder(begin).append(atom);
                for (int k = 0; k <= begin.length(); k++) {
                    if (new Grammar(tried.toString()).holds()) {
                        return true;
                    }
                    tried.append(')');
                }
            }
            return false;
        }

        private boolean at(int i, String letters) {
            return i < text.length() && letters.indexOf(text.charAt(i)) >= 0;
        }

        private BitSet sum(int from) {
            BitSet known = sums.get(from);
            if (known == null) {
                known = chain(from, "+-", true);
                sums.put(from, known);
            }
            return known;
        }

        private BitSet chain(int from, String operators, boolean ofTerms) {
            BitSet ends = new BitSet();
            BitSet open = ofTerms ? chain(from, "*", false) : factor(from);
            while (!open.isEmpty()) {
                ends.or(open);
                BitSet further = new BitSet();
                for (int i = open.nextSetBit(0); i >= 0; i = open.nextSetBit(i + 1)) {
                    if (at(i, operators)) {
                        further.or(ofTerms ? chain(i + 1, "*", false) : factor(i + 1));
                    }
                }
                further.andNot(ends);
                open = further;
            }
            return ends;
        }

        private BitSet factor(int from) {
            int i = from;
            while (at(i, "-")) {
                i++;
            }
            BitSet atoms = atom(i);
            BitSet ends = new BitSet();
            ends.or(atoms);
            for (int k = atoms.nextSetBit(0); k >= 0; k = atoms.nextSetBit(k + 1)) {
                if (at(k, "^") && at(k + 1, "0123456789")) {
                    ends.set(k + 2);
                }
            }
            return ends;
        }

        private BitSet atom(int from) {
            BitSet ends = new BitSet();
            if (at(from, "abcABCDEFGH")) {
                ends.set(from + 1);
            } else if (at(from, "(")) {
                BitSet inner = sum(from + 1);
                for (int k = inner.nextSetBit(0); k >= 0; k = inner.nextSetBit(k + 1)) {
                    if (at(k, ")")) {
                        ends.set(k + 1);
                    }
                }
            } else {
                number(from, ends);
            }
            return ends;
        }

        private void number(int from, BitSet ends) {
            for (int i = from; i < from + 4 && at(i, "0123456789"); i++) {
                ends.set(i + 1);
                if (at(i + 1, "/")) {
                    boolean other = false;
                    for (int k = i + 2; k < i + 6 && at(k, "0123456789"); k++) {
                        other |= text.charAt(k) != '0';
                        if (other) {
                            ends.set(k + 1);
                        }
                    }
                }
            }
        }
    }
}
