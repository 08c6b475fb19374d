import java.math.BigInteger;

/**
 * The edges of the POINT, RESULTS and what is written, sentence by sentence: the last that is still taken,
 * the first that no longer is, and what a refused call leaves. (Terms; promises 11 to 20.)
 */
public final class GradientDeskResultEdges extends Bench {
    private static final int[] NO_NAMES = {-1, 8, LEAST, MOST};
    private static final int[] NO_RESULTS = {-1, 8, LEAST, MOST};

    public static void main(String[] args) {
        atFirst();
        variablesOfThePoint();
        fractionsOfThePoint();
        setLeavesResults();
        gradientNames();
        gradientLeavesTheOthers();
        gradientAtZeros();
        gradientWithoutRoom();
        gradientAtTheSizes();
        shortAfterLong();
        alongNames();
        alongSteps();
        alongLeavesTheOthers();
        alongWithoutRoom();
        reckonIndices();
        reckonIntoItsOperands();
        reckonReduces();
        reckonAt1000BitsOfP();
        reckonAt1000BitsOfQ();
        reckonOverALongResult();
        reckonToTheLongest();
        comparing();
        comparingTheLongest();
        signs();
        bitsOfResults();
        wordsOfResults();
        writingNames();
        writingNumbers();
        writingTheLongestNumber();
        writing250();
        writtenIndices();
        end("the edges of RESULTS hold");
    }

    // ---- a POINT and RESULTS

    private static void atFirst() {
        about("1: the POINT is 0 and RESULTS are 0 at first");
        GradientDesk desk = new GradientDesk();
        due("RESULTS", results(desk, 0, 7), "0/1 0/1 0/1 0/1 0/1 0/1 0/1 0/1");
        define(desk, "a+b+c+1", 0);
        desk.gradient(0);
        due("at 0", results(desk, 0, 3), "1/1 1/1 1/1 1/1");
    }

    private static void variablesOfThePoint() {
        about("11: there is no such variable");
        GradientDesk desk = new GradientDesk();
        define(desk, "a+100*b+10*10^3*c", 0);
        desk.set(0, 1, 1);
        desk.set(1, 2, 1);
        desk.set(2, 3, 1);
        for (int bad : new int[] {-1, 3, LEAST, MOST}) {
            dueArgument("set(" + bad + ")", () -> desk.set(bad, 5, 1));
        }
        desk.gradient(0);
        due("a, b and c are set", result(desk, 0), "30201/1");
    }

    private static void fractionsOfThePoint() {
        about("11: p is not -9999 .. 9999, or q not 1 .. 9999");
        GradientDesk desk = new GradientDesk();
        define(desk, "b", 0);
        int[][] good = {{9999, 1}, {-9999, 1}, {0, 1}, {0, 9999}, {1, 9999}, {9999, 9999}, {-9999, 9998}, {6, 4}, {-6, 4}};
        String[] values = {"9999/1", "-9999/1", "0/1", "0/1", "1/9999", "1/1", "-9999/9998", "3/2", "-3/2"};
        for (int i = 0; i < good.length; i++) {
            desk.set(1, good[i][0], good[i][1]);
            desk.gradient(0);
            due("set(1, " + good[i][0] + ", " + good[i][1] + ")", result(desk, 0), values[i]);
        }
        int[][] wrong = {{10000, 1}, {-10000, 1}, {LEAST, 1}, {MOST, 1}, {1, 0}, {0, 0}, {1, -1}, {1, 10000}, {1, LEAST}, {1, MOST}};
        for (int[] pair : wrong) {
            dueArgument("set(1, " + pair[0] + ", " + pair[1] + ")", () -> desk.set(1, pair[0], pair[1]));
        }
        desk.gradient(0);
        due("nothing changed", result(desk, 0), "-3/2");
    }

    private static void setLeavesResults() {
        about("11: a variable of the POINT becomes p / q");
        GradientDesk desk = new GradientDesk();
        define(desk, "a*b+c", 0);
        desk.set(0, 1, 2);
        desk.gradient(0);
        desk.set(0, 5, 7);
        due("RESULTS stay until they are reckoned", results(desk, 0, 3), "0/1 0/1 1/2 1/1");
        desk.gradient(0);
        due("and follow then", results(desk, 0, 3), "0/1 0/1 5/7 1/1");
    }

    // ---- promise 12

    private static GradientDesk deskWithResults() {
        GradientDesk desk = new GradientDesk();
        for (int r = 0; r < 8; r++) {
            putResult(desk, "1/" + (r + 2), r);
        }
        desk.clear();
        return desk;
    }

    private static void gradientNames() {
        about("12: name is not 0 .. 7; NoSuchElementException");
        GradientDesk desk = deskWithResults();
        for (int bad : NO_NAMES) {
            dueArgument("gradient(" + bad + ")", () -> desk.gradient(bad));
        }
        for (int name = 0; name < 8; name++) {
            int none = name;
            dueElement("gradient(" + name + ")", () -> desk.gradient(none));
        }
        due("nothing changed", results(desk, 0, 7), "1/2 1/3 1/4 1/5 1/6 1/7 1/8 1/9");
        for (int name : new int[] {0, 7}) {
            define(desk, "" + (name + 5), name);
            desk.gradient(name);
            due("gradient(" + name + ")", results(desk, 0, 3), (name + 5) + "/1 0/1 0/1 0/1");
        }
    }

    private static void gradientLeavesTheOthers() {
        about("12: RESULT 0 becomes the VALUE, RESULTS 1, 2, 3 its DERIVATIVES");
        GradientDesk desk = deskWithResults();
        define(desk, "a*b*c", 0);
        desk.set(0, 2, 1);
        desk.set(1, 3, 1);
        desk.set(2, 5, 1);
        int before = desk.made();
        desk.gradient(0);
        due("RESULTS", results(desk, 0, 7), "30/1 15/1 10/1 6/1 1/6 1/7 1/8 1/9");
        due("no part is made", desk.made(), before);
    }

    private static void gradientAtZeros() {
        about("12: the VALUE at the POINT 0");
        String[][] rows = {{"a^2", "0/1 0/1 0/1 0/1"}, {"a^8+b", "0/1 0/1 1/1 0/1"}, {"(a+1)^8", "1/1 8/1 0/1 0/1"},
            {"a*b", "0/1 0/1 0/1 0/1"}, {"(a-1)*(b+2)", "-2/1 2/1 -1/1 0/1"}, {"a-a", "0/1 0/1 0/1 0/1"},
            {"0", "0/1 0/1 0/1 0/1"}, {"1/2-c", "1/2 0/1 0/1 -1/1"}};
        for (String[] row : rows) {
            GradientDesk desk = new GradientDesk();
            define(desk, row[0], 0);
            desk.gradient(0);
            due("gradient of " + row[0], results(desk, 0, 3), row[1]);
        }
    }

    /** An expression whose derivative by a can't be made, as its d would be 404. */
    private static void defineUnderivable(GradientDesk desk) {
        define(desk, "(1/2^9)^9*1/2^9*1/2^9*1/2", 0);
        define(desk, "(a*A)*(a*A)", 1);
        due("its derivative", desk.derive(1, 0, 2), LARGE);
    }

    private static void gradientWithoutRoom() {
        about("12: its DERIVATIVES are the values of those parts (as if there were room for them)");
        GradientDesk large = new GradientDesk();
        defineUnderivable(large);
        large.set(0, 3, 1);
        large.gradient(1);
        BigInteger half = BigInteger.ONE.shiftLeft(200);
        due("where derive answers LARGE", results(large, 0, 3),
                show(reduced(BigInteger.valueOf(9), half)) + " " + show(reduced(BigInteger.valueOf(6), half)) + " 0/1 0/1");
        GradientDesk full = new GradientDesk();
        define(full, "b*c", 0);
        fillTo(full, 200);
        due("FULL", full.derive(0, 1, 1), FULL);
        full.set(1, 5, 1);
        full.set(2, 7, 1);
        full.gradient(0);
        due("where derive answers FULL", results(full, 0, 3), "35/1 0/1 7/1 5/1");
        due("made", full.made(), 200);
    }

    /** Denominators of 201 and 199 bits, so that those of the product and of the sum have 400. */
    private static void gradientAtTheSizes() {
        about("12: expressions with a size of 400");
        BigInteger[] first = pow(ratio(1, 2), 200);
        BigInteger[] second = pow(ratio(1, 2), 198);
        GradientDesk desk = new GradientDesk();
        define(desk, "a*(((1/2^9)^9)^2*(1/2^9)^4*1/2^2)", 0);
        define(desk, "b*(((1/2^9)^9)^2*(1/2^9)^4)", 1);
        due("d of a product", desk.part(define(desk, "A*B", 2), 5), 400);
        due("d of a sum", desk.part(define(desk, "A+B", 3), 5), 400);
        desk.set(0, 3, 5);
        desk.set(1, -5, 7);
        desk.gradient(2);
        BigInteger[] both = mul(first, second);
        due("the product", results(desk, 0, 3), show(mul(ratio(-3, 7), both)) + " " + show(mul(ratio(-5, 7), both)) + " "
                + show(mul(ratio(3, 5), both)) + " 0/1");
        desk.gradient(3);
        due("the sum", results(desk, 0, 3), show(add(mul(ratio(3, 5), first), mul(ratio(-5, 7), second))) + " "
                + show(first) + " " + show(second) + " 0/1");
        define(desk, "1/2*a*(((2^9)^9)^4*(2^9)^6*2^3)", 4);
        due("n of 400", desk.part(define(desk, "E", 5), 4), 400);
        desk.along(4, 10, 0, 0);
        due("it", results(desk, 4, 5), show(mul(ratio(3, 10), pow(ratio(2, 1), 381))) + " "
                + show(mul(ratio(5, 1), pow(ratio(2, 1), 381))));
    }

    private static void shortAfterLong() {
        about("12 and 13: nothing of a long number is left in a short one");
        GradientDesk desk = new GradientDesk();
        define(desk, "((3^9)^7)^4", 0);
        define(desk, "((1/3^9)^7)^4", 1);
        define(desk, "6/4", 2);
        due("a number", written(desk, 2), "3/2");
        for (int name = 0; name < 2; name++) {
            desk.gradient(name);
            desk.along(name, 0, 0, 0);
            due("400 bits", desk.bits(0, name) + " " + desk.bits(4, name), "400 400");
            define(desk, "a*b", 3);
            desk.set(0, 6, 4);
            desk.set(1, 2, 6);
            desk.gradient(3);
            desk.along(3, 6, 4, 0);
            due("short ones", results(desk, 0, 5), "1/2 1/3 3/2 0/1 1/2 8/1");
            due("no word is left", desk.word(0, name, 1) + " " + desk.word(4, name, 12), "0 0");
            desk.gradient(name);
            define(desk, "a^8", 3);
            desk.set(0, 512 * 3, 512 * 5);
            desk.gradient(3);
            due("a power of a fraction that was not reduced", results(desk, 0, 3), "6561/390625 17496/78125 0/1 0/1");
        }
    }

    // ---- promise 13

    private static void alongNames() {
        about("13: name is not 0 .. 7; NoSuchElementException");
        GradientDesk desk = deskWithResults();
        for (int bad : NO_NAMES) {
            dueArgument("along(" + bad + ")", () -> desk.along(bad, 1, 1, 1));
        }
        for (int name = 0; name < 8; name++) {
            int none = name;
            dueElement("along(" + name + ")", () -> desk.along(none, 1, 1, 1));
            dueArgument("a wrong step comes first: along(" + name + ")", () -> desk.along(none, 1, 1, 1000));
        }
        due("nothing changed", results(desk, 0, 7), "1/2 1/3 1/4 1/5 1/6 1/7 1/8 1/9");
        for (int name : new int[] {0, 7}) {
            define(desk, "a+" + (name + 5), name);
            desk.along(name, 1, 0, 0);
            due("along(" + name + ")", results(desk, 4, 5), (name + 5) + "/1 1/1");
        }
    }

    private static void alongSteps() {
        about("13: one of x, y, z not -999 .. 999");
        GradientDesk desk = new GradientDesk();
        define(desk, "a+1/1000*b+1/1000^2*c", 0);
        desk.along(0, 999, 999, 999);
        due("999", result(desk, 5), "999999999/1000000");
        desk.along(0, -999, -999, -999);
        due("-999", result(desk, 5), "-999999999/1000000");
        desk.along(0, 0, 0, 0);
        due("0", result(desk, 5), "0/1");
        desk.along(0, 3, -4, 5);
        for (int bad : new int[] {1000, -1000, LEAST, MOST}) {
            dueArgument("x " + bad, () -> desk.along(0, bad, 0, 0));
            dueArgument("y " + bad, () -> desk.along(0, 0, bad, 0));
            dueArgument("z " + bad, () -> desk.along(0, 0, 0, bad));
        }
        due("nothing changed", result(desk, 5), "599201/200000");
    }

    private static void alongLeavesTheOthers() {
        about("13: RESULT 4 becomes the VALUE, RESULT 5 the sum");
        GradientDesk desk = deskWithResults();
        define(desk, "a*b*c", 0);
        desk.set(0, 2, 1);
        desk.set(1, 3, 1);
        desk.set(2, 5, 1);
        desk.along(0, 1, 10, -100);
        due("RESULTS", results(desk, 0, 7), "1/2 1/3 1/4 1/5 30/1 -485/1 1/8 1/9");
    }

    private static void alongWithoutRoom() {
        about("13: the DERIVATIVES (as if there were room for them)");
        GradientDesk desk = new GradientDesk();
        defineUnderivable(desk);
        desk.set(0, 3, 1);
        desk.along(1, 999, 0, 0);
        due("where derive answers LARGE", result(desk, 5), show(reduced(BigInteger.valueOf(5994), BigInteger.ONE.shiftLeft(200))));
    }

    // ---- promise 14

    private static void reckonIndices() {
        about("14: IndexOutOfBoundsException; IllegalArgumentException: another what");
        GradientDesk desk = deskWithResults();
        for (int bad : NO_RESULTS) {
            dueIndex("r " + bad, () -> desk.reckon(0, bad, 0, 1));
            dueIndex("i " + bad, () -> desk.reckon(0, 0, bad, 1));
            dueIndex("j " + bad, () -> desk.reckon(0, 0, 1, bad));
            dueIndex("index before argument, r " + bad, () -> desk.reckon(3, bad, 0, 1));
            dueIndex("index before argument, i " + bad, () -> desk.reckon(-1, 0, bad, 1));
            dueIndex("index before argument, j " + bad, () -> desk.reckon(3, 0, 1, bad));
        }
        for (int bad : new int[] {-1, 3, LEAST, MOST}) {
            dueArgument("what " + bad, () -> desk.reckon(bad, 0, 1, 2));
        }
        due("nothing changed", results(desk, 0, 7), "1/2 1/3 1/4 1/5 1/6 1/7 1/8 1/9");
        due("RESULTS 7 and 0", desk.reckon(0, 7, 7, 0), true);
        due("the sum", results(desk, 0, 7), "1/2 1/3 1/4 1/5 1/6 1/7 1/8 11/18");
        due("RESULTS 0 and 7", desk.reckon(1, 0, 0, 7), true);
        due("the difference", results(desk, 0, 7), "-1/9 1/3 1/4 1/5 1/6 1/7 1/8 11/18");
        due("the last what", desk.reckon(2, 3, 0, 7), true);
        due("the product", results(desk, 0, 7), "-1/9 1/3 1/4 -11/162 1/6 1/7 1/8 11/18");
    }

    private static void reckonIntoItsOperands() {
        about("14: RESULT r may be one of RESULTS i and j");
        String[] once = {"5/6", "1/6", "1/6"};
        String[] twice = {"1/1", "0/1", "1/4"};
        for (int what = 0; what <= 2; what++) {
            GradientDesk first = deskWithResults();
            first.reckon(what, 0, 0, 1);
            due("what " + what + ", r = i", results(first, 0, 1), once[what] + " 1/3");
            GradientDesk second = deskWithResults();
            second.reckon(what, 1, 0, 1);
            due("what " + what + ", r = j", results(second, 0, 1), "1/2 " + once[what]);
            GradientDesk all = deskWithResults();
            all.reckon(what, 0, 0, 0);
            due("what " + what + ", r = i = j", results(all, 0, 1), twice[what] + " 1/3");
        }
    }

    private static void reckonReduces() {
        about("14: p / q with q 1 or more and no common divisor; 0 is 0 / 1");
        GradientDesk desk = new GradientDesk();
        putResult(desk, "1/6", 0);
        putResult(desk, "5/6", 1);
        putResult(desk, "-1/6", 2);
        desk.reckon(0, 3, 0, 1);
        desk.reckon(0, 4, 0, 2);
        desk.reckon(1, 5, 1, 2);
        desk.reckon(2, 6, 4, 1);
        desk.reckon(2, 7, 2, 2);
        due("RESULTS", results(desk, 3, 7), "1/1 0/1 1/1 0/1 1/36");
        desk.reckon(1, 3, 4, 1);
        due("0 less something", result(desk, 3), "-5/6");
    }

    /** RESULT r becomes base ^ n; RESULT spare is used. */
    private static void putPower(GradientDesk desk, String base, int n, int r, int spare) {
        putResult(desk, base, spare);
        putResult(desk, "1", r);
        for (int bit = Integer.highestOneBit(n); bit > 0; bit >>= 1) {
            desk.reckon(2, r, r, r);
            if ((n & bit) != 0) {
                desk.reckon(2, r, r, spare);
            }
        }
    }

    private static void reckonAt1000BitsOfP() {
        about("14: if their p or q has more than 1,000 bits, nothing is changed (p)");
        GradientDesk desk = new GradientDesk();
        putPower(desk, "2", 999, 0, 7);
        putResult(desk, "1", 2);
        due("2^999 - 1", desk.reckon(1, 1, 0, 2), true);
        due("2^1000 - 1", desk.reckon(0, 1, 0, 1), true);
        due("its bits", desk.bits(1, 0), 1000);
        due("2^1000", desk.reckon(0, 3, 0, 0), true);
        due("its bits", desk.bits(3, 0), 1001);
        BigInteger greatest = BigInteger.ONE.shiftLeft(1000).subtract(BigInteger.ONE);
        due("1,000 bits with 1,000 bits, a product", desk.reckon(2, 4, 1, 1), true);
        due("it", result(desk, 4), greatest.multiply(greatest) + "/1");
        due("1,000 bits with 1,000 bits, a sum", desk.reckon(0, 4, 1, 1), true);
        due("it", result(desk, 4), greatest.shiftLeft(1) + "/1");
        due("1,000 bits with 1,000 bits, a difference", desk.reckon(1, 4, 1, 1), true);
        due("it", result(desk, 4), "0/1");
        desk.reckon(1, 5, 4, 0);
        desk.reckon(1, 5, 5, 0);
        due("-2^1000", desk.sign(5) + " " + desk.bits(5, 0), "-1 1001");
        checkRefusals(desk, 3);
        checkRefusals(desk, 5);
    }

    /** No what is reckoned with this RESULT, on either side; RESULT 6 is kept as it is. */
    private static void checkRefusals(GradientDesk desk, int tooLong) {
        putResult(desk, "-22/7", 6);
        for (int what = 0; what <= 2; what++) {
            due("what " + what + ", too long as i", desk.reckon(what, 6, tooLong, 2), false);
            due("what " + what + ", too long as j", desk.reckon(what, 6, 2, tooLong), false);
            due("what " + what + ", too long as both", desk.reckon(what, 6, tooLong, tooLong), false);
        }
        due("nothing changed", result(desk, 6), "-22/7");
        int bits = desk.bits(tooLong, 0) + desk.bits(tooLong, 1);
        due("into itself", desk.reckon(1, tooLong, tooLong, tooLong), false);
        due("nothing changed", desk.bits(tooLong, 0) + desk.bits(tooLong, 1), bits);
        dueArgument("another what comes first", () -> desk.reckon(3, 6, tooLong, 2));
        dueIndex("a wrong index comes first", () -> desk.reckon(0, 8, tooLong, 2));
    }

    private static void reckonAt1000BitsOfQ() {
        about("14: if their p or q has more than 1,000 bits, nothing is changed (q)");
        GradientDesk desk = new GradientDesk();
        putPower(desk, "1/2", 999, 0, 7);
        due("bits of 2^-999", desk.bits(0, 1), 1000);
        putResult(desk, "1/2", 1);
        putResult(desk, "1", 2);
        due("2^-1000", desk.reckon(2, 3, 0, 1), true);
        due("its bits", desk.bits(3, 1), 1001);
        due("1,000 bits with 1,000 bits, a product", desk.reckon(2, 4, 0, 0), true);
        due("its bits", desk.bits(4, 0) + " " + desk.bits(4, 1), "1 1999");
        due("a sum", desk.reckon(0, 4, 0, 2), true);
        due("1 + 2^-999", desk.bits(4, 0) + " " + desk.bits(4, 1), "1000 1000");
        due("both of 1,000 bits", desk.reckon(1, 4, 4, 2), true);
        due("are equal to 2^-999", desk.compare(4, 0), 0);
        checkRefusals(desk, 3);
    }

    private static void reckonOverALongResult() {
        about("14: it is RESULTS i and j whose bits are looked at");
        GradientDesk desk = new GradientDesk();
        putPower(desk, "2", 999, 0, 7);
        desk.reckon(2, 5, 0, 0);
        due("1,999 bits", desk.bits(5, 0), 1999);
        putResult(desk, "1/3", 1);
        due("into a long one", desk.reckon(2, 5, 1, 1), true);
        due("it is short", result(desk, 5), "1/9");
        due("no word is left", desk.word(5, 0, 1) + " " + desk.word(5, 0, 62), "0 0");
    }

    /** Two fractions of 1,000 bits whose denominators have no common divisor: their sum has 2,001 bits. */
    private static GradientDesk deskWithLongFractions() {
        GradientDesk desk = new GradientDesk();
        putPower(desk, "17", 244, 0, 7);
        putResult(desk, "5/8", 7);
        desk.reckon(2, 0, 0, 7);
        putPower(desk, "1/9999", 75, 2, 7);
        desk.reckon(2, 0, 0, 2);
        putPower(desk, "19", 235, 1, 7);
        putResult(desk, "3/7", 7);
        desk.reckon(2, 1, 1, 7);
        putPower(desk, "1/9997", 75, 2, 7);
        desk.reckon(2, 1, 1, 2);
        return desk;
    }

    private static BigInteger[] firstLong() {
        return mul(mul(pow(ratio(17, 1), 244), ratio(5, 8)), pow(ratio(1, 9999), 75));
    }

    private static BigInteger[] secondLong() {
        return mul(mul(pow(ratio(19, 1), 235), ratio(3, 7)), pow(ratio(1, 9997), 75));
    }

    private static void reckonToTheLongest() {
        about("14: the longest RESULTS");
        GradientDesk desk = deskWithLongFractions();
        due("1,000 bits of all", desk.bits(0, 0) + " " + desk.bits(0, 1) + " " + desk.bits(1, 0) + " " + desk.bits(1, 1),
                "1000 1000 1000 1000");
        due("the sum", desk.reckon(0, 3, 0, 1), true);
        due("its bits", desk.bits(3, 0), 2001);
        BigInteger[] sum = add(firstLong(), secondLong());
        due("p", side(desk, 3, 0), sum[0]);
        due("q", side(desk, 3, 1), sum[1]);
        due("the difference", desk.reckon(1, 3, 1, 0), true);
        BigInteger[] difference = add(secondLong(), mul(ratio(-1, 1), firstLong()));
        due("p", side(desk, 3, 0), difference[0].abs());
        due("its sign", desk.sign(3), difference[0].signum());
        due("the product", desk.reckon(2, 3, 0, 1), true);
        due("p", side(desk, 3, 0), mul(firstLong(), secondLong())[0]);
    }

    // ---- promises 15 to 18

    private static void comparing() {
        about("15: -1, 0 or 1");
        GradientDesk desk = new GradientDesk();
        String[] rising = {"-9999", "-1/2", "-1/9999", "0", "1/9999", "1/9998", "9999/9998", "9998/9997"};
        for (int i = 0; i < 8; i++) {
            putResult(desk, rising[i], i);
        }
        for (int i = 0; i < 8; i++) {
            for (int j = 0; j < 8; j++) {
                due(rising[i] + " with " + rising[j], desk.compare(i, j), Integer.compare(i, j));
            }
        }
        for (int bad : NO_RESULTS) {
            dueIndex("i " + bad, () -> desk.compare(bad, 0));
            dueIndex("j " + bad, () -> desk.compare(0, bad));
        }
    }

    private static void comparingTheLongest() {
        about("15: the longest RESULTS");
        GradientDesk desk = deskWithLongFractions();
        desk.reckon(0, 3, 0, 1);
        desk.reckon(0, 4, 1, 0);
        due("equal sums", desk.compare(3, 4), 0);
        putPower(desk, "1/9997", 75, 5, 7);
        desk.reckon(0, 5, 5, 1);
        desk.reckon(0, 4, 5, 0);
        due("a little more, of 2,001 bits", desk.bits(4, 0), 2001);
        due("less", desk.compare(3, 4), -1);
        due("more", desk.compare(4, 3), 1);
        desk.reckon(1, 6, 6, 6);
        desk.reckon(1, 0, 6, 0);
        desk.reckon(1, 1, 6, 1);
        desk.reckon(1, 5, 6, 5);
        desk.reckon(0, 3, 0, 1);
        desk.reckon(0, 4, 0, 5);
        due("below 0 it is more", desk.compare(3, 4), 1);
        due("and less", desk.compare(4, 3), -1);
        due("below 0 with 0", desk.compare(4, 6) + " " + desk.compare(6, 4), "-1 1");
    }

    private static void signs() {
        about("16: -1, 0 or 1");
        GradientDesk desk = new GradientDesk();
        putResult(desk, "-1/9999", 0);
        putResult(desk, "1/9999", 7);
        due("below", desk.sign(0), -1);
        due("0", desk.sign(1), 0);
        due("above", desk.sign(7), 1);
        desk.reckon(0, 2, 0, 7);
        due("a sum of 0", desk.sign(2), 0);
        desk.reckon(2, 2, 0, 1);
        due("below 0 times 0", desk.sign(2), 0);
        for (int bad : NO_RESULTS) {
            dueIndex("r " + bad, () -> desk.sign(bad));
        }
    }

    private static void bitsOfResults() {
        about("17: the BITS of p or q (0 has none)");
        GradientDesk desk = new GradientDesk();
        String[] texts = {"0", "1", "-1", "2", "-3/4", "(2^8)^4-1", "-(2^8)^4", "(1/2^8)^4"};
        String[] bits = {"0 1", "1 1", "1 1", "2 1", "2 3", "32 1", "33 1", "1 33"};
        for (int i = 0; i < texts.length; i++) {
            putResult(desk, texts[i], i);
            due("bits of " + texts[i], desk.bits(i, 0) + " " + desk.bits(i, 1), bits[i]);
        }
        for (int bad : NO_RESULTS) {
            dueIndex("r " + bad, () -> desk.bits(bad, 0));
            dueIndex("index before argument, r " + bad, () -> desk.bits(bad, 2));
        }
        for (int bad : new int[] {-1, 2, LEAST, MOST}) {
            dueArgument("which " + bad, () -> desk.bits(0, bad));
        }
    }

    private static void wordsOfResults() {
        about("18: bits 32 i to 32 i + 31 of the size of p or q, as an int (0 beyond it; i is 0 .. 63)");
        GradientDesk desk = new GradientDesk();
        putResult(desk, "-((2^8)^4-1)", 0);
        due("32 bits, below 0", desk.word(0, 0, 0) + " " + desk.word(0, 0, 1) + " " + desk.word(0, 1, 0), "-1 0 1");
        putResult(desk, "(2^8)^4", 0);
        due("33 bits", desk.word(0, 0, 0) + " " + desk.word(0, 0, 1) + " " + desk.word(0, 0, 2), "0 1 0");
        putResult(desk, "1/2^9*1/2^9*1/2^9*1/2^4", 7);
        due("q of 32 bits", desk.word(7, 1, 0) + " " + desk.word(7, 1, 1), LEAST + " 0");
        due("of 0", desk.word(3, 0, 0) + " " + desk.word(3, 1, 0) + " " + desk.word(3, 1, 1), "0 1 0");
        due("the last i", desk.word(0, 0, 63) + " " + desk.word(7, 1, 63), "0 0");
        for (int bad : new int[] {-1, 64, LEAST, MOST}) {
            dueIndex("i " + bad, () -> desk.word(0, 0, bad));
            dueIndex("index before argument, i " + bad, () -> desk.word(0, 2, bad));
        }
        for (int bad : NO_RESULTS) {
            dueIndex("r " + bad, () -> desk.word(bad, 0, 0));
            dueIndex("index before argument, r " + bad, () -> desk.word(bad, 2, 0));
        }
        for (int bad : new int[] {-1, 2, LEAST, MOST}) {
            dueArgument("which " + bad, () -> desk.word(0, bad, 0));
        }
        GradientDesk longest = deskWithLongFractions();
        longest.reckon(0, 3, 0, 1);
        due("the top bit of 2,001", longest.word(3, 0, 62) >>> 16, 1);
        due("none above", longest.word(3, 0, 63), 0);
    }

    // ---- promises 19 and 20

    private static void writingNames() {
        about("19: name is not 0 .. 7; NoSuchElementException");
        GradientDesk desk = new GradientDesk();
        define(desk, "a+b", 0);
        define(desk, "c", 7);
        due("0", written(desk, 0), "(a+b)");
        due("7", written(desk, 7), "c");
        due("0", desk.write(0), 5);
        for (int bad : NO_NAMES) {
            dueArgument("write(" + bad + ")", () -> desk.write(bad));
        }
        for (int name = 1; name < 7; name++) {
            int none = name;
            dueElement("write(" + name + ")", () -> desk.write(none));
        }
        due("what was written stays", letters(desk, 5), "(a+b)");
    }

    private static void writingNumbers() {
        about("19: numbers as p or p/q, with - before the digits when below 0");
        String[][] pairs = {{"0", "0"}, {"1", "1"}, {"-1", "-1"}, {"1/2", "1/2"}, {"-1/2", "-1/2"}, {"4/2", "2"}, {"0/3", "0"},
            {"9999", "9999"}, {"1000^3", "1000000000"}, {"1000^3-1", "999999999"}, {"1000^6", "1000000000000000000"},
            {"1000^6-1", "999999999999999999"}, {"1/10^9", "1/1000000000"}, {"-1/10^9*1001", "-1001/1000000000"},
            {"(2^8)^4", "4294967296"}, {"a*-1/2", "(a*-1/2)"}, {"-1/2+a", "(-1/2+a)"}, {"-a^2", "(-1*a^2)"}, {"(-a)^2", "(-1*a)^2"},
            {"(a^2)^4", "a^2^4"}, {"(a+1)^2*b", "((a+1)^2*b)"}};
        for (String[] pair : pairs) {
            GradientDesk desk = new GradientDesk();
            define(desk, pair[0], 0);
            due("write of " + pair[0], written(desk, 0), pair[1]);
        }
    }

    private static void writingTheLongestNumber() {
        about("19: the longest number");
        GradientDesk desk = new GradientDesk();
        define(desk, "-((3^9)^7)^4", 0);
        define(desk, "((1/2^9)^9)^4*(1/2^9)^8*1/2^3", 1);
        define(desk, "A*B", 2);
        due("it has 400 bits of p and q", look(desk, define(desk, "C", 3)), "0 -1 -1 0 400 400");
        String p = BigInteger.valueOf(3).pow(252).toString();
        String q = BigInteger.ONE.shiftLeft(399).toString();
        due("121 digits of each", p.length() + " " + q.length(), "121 121");
        due("written", written(desk, 2), "-" + p + "/" + q);
    }

    /** B is a sum of 62 a, and so has 62 * 4 - 3 = 245 characters. */
    private static GradientDesk deskWithALongSum() {
        GradientDesk desk = new GradientDesk();
        define(desk, "a" + "+a".repeat(31), 0);
        define(desk, "A" + "+a".repeat(30), 1);
        due("B", desk.write(1), 245);
        return desk;
    }

    private static void writing250() {
        about("19: LARGE (and what was written last stays) if they are more than 250");
        String begin = "(".repeat(62) + "a" + "+a)".repeat(61);
        String[] last = {"1", "12"};
        for (String number : last) {
            GradientDesk desk = deskWithALongSum();
            define(desk, "B+" + number, 2);
            due("written with " + number, written(desk, 2), begin + "+" + number + ")");
        }
        GradientDesk desk = deskWithALongSum();
        define(desk, "B+12", 3);
        define(desk, "B+123", 4);
        due("250", desk.write(3), 250);
        due("251", desk.write(4), LARGE);
        due("what was written stays", letters(desk, 250), begin + "+12)");
    }

    private static void writtenIndices() {
        about("20: there is no such character");
        GradientDesk desk = new GradientDesk();
        dueIndex("written(0) at first", () -> desk.written(0));
        define(desk, "a*b", 0);
        define(desk, "c", 1);
        dueIndex("written(0) before it is written", () -> desk.written(0));
        desk.write(0);
        due("the first", (char) desk.written(0), '(');
        due("the last", (char) desk.written(4), ')');
        for (int bad : new int[] {-1, 5, 249, 250, LEAST, MOST}) {
            dueIndex("written(" + bad + ")", () -> desk.written(bad));
        }
        define(desk, "b", 0);
        desk.derive(1, 0, 1);
        due("new expressions change nothing of it", letters(desk, 5), "(a*b)");
        desk.clear();
        due("nor does clear", letters(desk, 5), "(a*b)");
        define(desk, "c", 2);
        desk.write(2);
        due("a shorter one", letters(desk, 1), "c");
        GradientDesk refused = new GradientDesk();
        fillTo(refused, 200);
        due("LARGE when nothing was written", refused.write(7), LARGE);
        dueIndex("written(0) then", () -> refused.written(0));
    }
}
