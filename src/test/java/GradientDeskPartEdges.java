import java.math.BigInteger;

/**
 * The edges of the parts, sentence by sentence: how they are made at 0, 1 and the limits of DEGREE, sizes
 * and room, what is taken back, and which parts there are. (Terms; promises 3 and 5 to 10.)
 */
public final class GradientDeskPartEdges extends Bench {
    public static void main(String[] args) {
        partsFromZeroOn();
        whatSaysTheSame();
        sumsWithZero();
        productsWithZeroAndOne();
        powersByTheirExponent();
        negatives();
        orderOfMaking();
        sizesOfNumbers();
        degrees();
        numbersOf400Bits();
        denominatorsOf400Bits();
        numbersAreMeasuredReduced();
        sizeNOfProductsAndSums();
        sizeNOfPowers();
        sizeD();
        largeBetween();
        roomForParts();
        fullTakesBackAll();
        largeBeforeFull();
        derivativesByRule();
        derivativesOfTheirOwnPartsAlone();
        deriveArguments();
        deriveIntoItself();
        deriveAtTheLastRoom();
        deriveLarge();
        deriveLargeBeforeFull();
        deriveBesidePartZero();
        madeAndParts();
        partIndices();
        numberIndices();
        clearing();
        end("the edges of the parts hold");
    }

    /** A text of the number 2 ^ k, for k up to 809. */
    private static String twoTo(int k) {
        return "((2^9)^9)^" + k / 81 + "*(2^9)^" + k % 81 / 9 + "*2^" + k % 9;
    }

    private static String halfTo(int k) {
        return "((1/2^9)^9)^" + k / 81 + "*(1/2^9)^" + k % 81 / 9 + "*1/2^" + k % 9;
    }

    private static String defined(String text) {
        GradientDesk desk = new GradientDesk();
        int answer = define(desk, text, 0);
        return answer < 0 ? "answer " + answer : written(desk, 0);
    }

    /** Defines a text that can't be made, and checks that nothing is left of it. */
    private static void refused(GradientDesk desk, String text, int want) {
        int before = desk.made();
        due("define of " + text, define(desk, text, 6), want);
        due("made after " + text, desk.made(), before);
        dueIndex("a part of " + text, () -> desk.part(before, 0));
        dueElement("the name of " + text, () -> desk.parts(6));
    }

    // ---- how parts are made

    private static void partsFromZeroOn() {
        about("3: parts have numbers from 0 on, as they are made");
        GradientDesk desk = new GradientDesk();
        due("the first", define(desk, "c", 0), 0);
        due("the third, behind its operands", define(desk, "c+b", 0), 2);
        due("the next", define(desk, "5", 0), 3);
        define(desk, "a+", 0);
        define(desk, "b^9", 0);
        due("no number is lost by a refused one", define(desk, "a", 0), 4);
    }

    private static void whatSaysTheSame() {
        about("3: there are never two parts that say the same");
        GradientDesk desk = new GradientDesk();
        due("a+b", define(desk, "a+b", 0), 2);
        due("again", define(desk, "(a)+b", 0), 2);
        due("operands in their order", define(desk, "b+a", 0), 3);
        due("another sort", define(desk, "a*b", 0), 4);
        due("operands in their order", define(desk, "b*a", 0), 5);
        due("a^2", define(desk, "a^2", 0), 6);
        due("another exponent", define(desk, "a^3", 0), 7);
        due("another base", define(desk, "b^2", 0), 8);
        due("a*a is no power", define(desk, "a*a", 0), 9);
        due("a number", define(desk, "2/4", 0), 10);
        due("the same fraction", define(desk, "0001/0002", 0), 10);
        due("the same q", define(desk, "3/2", 0), 11);
        due("the same p", define(desk, "1/3", 0), 12);
        due("its negative makes -1 and itself", define(desk, "-1/3", 0), 14);
        due("a number that comes of numbers", define(desk, "1/6+1/6", 0), 12);
        due("only 1/6 is new", desk.made(), 16);
        due("0", define(desk, "0", 0), 16);
        due("0 in another way", define(desk, "0/9-0", 0), 16);
        GradientDesk zero = new GradientDesk();
        define(zero, "0", 0);
        for (String text : new String[] {"1-1", "-1+1", "-1/3+1/3", "1/3-1/3", "-0", "0*-1", "-1*0", "0-0", "-0-0", "(-0)^3", "-(1-1)"}) {
            due("0 is one part, as " + text, define(zero, text, 1), 0);
        }
    }

    private static void sumsWithZero() {
        about("3: if both are NUMBERS, the NUMBER of their sum; if x is 0, y; if y is 0, x; else the SUM");
        due("numbers", defined("1/2+1/3"), "5/6");
        due("numbers to 0", defined("1/2-1/2"), "0");
        due("0 + 0", defined("0+0"), "0");
        due("0 + x", defined("0+a"), "a");
        due("x + 0", defined("a+0"), "a");
        due("x - 0", defined("a-0"), "a");
        due("0 - x", defined("0-a"), "(-1*a)");
        due("number + x", defined("1+a"), "(1+a)");
        due("x + number", defined("a+1"), "(a+1)");
        due("x + x", defined("a+a"), "(a+a)");
        due("x - x", defined("a-a"), "(a+(-1*a))");
        due("numbers meet only from the left on", defined("a+1+1"), "((a+1)+1)");
    }

    private static void productsWithZeroAndOne() {
        about("3: if one is 0, that one; if x is 1, y; if y is 1, x; else the PRODUCT");
        due("numbers", defined("2/3*3/4"), "1/2");
        due("0 * 0", defined("0*0"), "0");
        due("0 * 1", defined("0*1"), "0");
        due("1 * 1", defined("1*1"), "1");
        due("0 * x", defined("0*a"), "0");
        due("x * 0", defined("a*0"), "0");
        due("1 * x", defined("1*a"), "a");
        due("x * 1", defined("a*1"), "a");
        due("-1 * x", defined("(-1)*a"), "(-1*a)");
        due("1/2 * x", defined("1/2*a"), "(1/2*a)");
        due("x * 2", defined("a*2"), "(a*2)");
        due("x * x", defined("a*a"), "(a*a)");
        due("numbers meet only from the left on", defined("a*2*1/2"), "((a*2)*1/2)");
    }

    private static void powersByTheirExponent() {
        about("3: for n 0 the NUMBER 1; for 1, x; if x is a NUMBER, that of x ^ n; else the POWER");
        due("x^0", defined("a^0"), "1");
        due("x^1", defined("a^1"), "a");
        due("x^2", defined("a^2"), "a^2");
        due("x^8", defined("a^8"), "a^8");
        due("0^0", defined("0^0"), "1");
        due("0^1", defined("0^1"), "0");
        due("0^2", defined("0^2"), "0");
        due("0^9", defined("0^9"), "0");
        due("1^9", defined("1^9"), "1");
        due("number^0", defined("2/3^0"), "1");
        due("number^1", defined("2/3^1"), "2/3");
        due("number^2", defined("2/3^2"), "4/9");
        due("number^9", defined("2/3^9"), "512/19683");
        due("below 0, an even power", defined("(-2/3)^2"), "4/9");
        due("below 0, an odd power", defined("(-2/3)^3"), "-8/27");
        due("the power comes before the minus", defined("-2/3^2"), "-4/9");
    }

    private static void negatives() {
        about("3: -x is made as (-1) * x, x - y as x + (-1) * y, where -1 is made before the product");
        checkParts("-a", "1 0 -1 1 1 0", "0 -1 -1 0 1 0", "3 1 0 1 10 0");
        checkParts("-1", "0 -1 -1 0 1 0", "0 -1 -1 0 1 0");
        checkParts("-0", "0 -1 -1 0 1 0", "0 -1 -1 0 1 0");
        checkParts("-2", "0 -1 -1 0 2 0", "0 -1 -1 0 1 0", "0 -1 -1 0 2 0");
        checkParts("--2", "0 -1 -1 0 2 0", "0 -1 -1 0 1 0", "0 -1 -1 0 2 0");
        checkParts("a-b", "1 0 -1 1 1 0", "1 1 -1 1 1 0", "0 -1 -1 0 1 0", "3 2 1 1 10 0", "2 0 3 1 11 0");
        checkParts("a-0", "1 0 -1 1 1 0", "0 -1 -1 0 1 0", "0 -1 -1 0 1 0");
        checkParts("--a", "1 0 -1 1 1 0", "0 -1 -1 0 1 0", "3 1 0 1 10 0", "3 1 2 1 19 0");
        GradientDesk desk = new GradientDesk();
        due("-0 is the 0 that is there", define(desk, "-0", 0), 0);
        due("--2 is the 2 that is there", define(desk, "--2", 0), 2);
    }

    private static void orderOfMaking() {
        about("3: a text is made from the left to the right");
        String a = "1 0 -1 1 1 0";
        String b = "1 1 -1 1 1 0";
        String c = "1 2 -1 1 1 0";
        String minusOne = "0 -1 -1 0 1 0";
        checkParts("a+b+c", a, b, "2 0 1 1 2 0", c, "2 2 3 1 3 0");
        checkParts("a+(b+c)", a, b, c, "2 1 2 1 2 0", "2 0 3 1 3 0");
        checkParts("a*b*c", a, b, "3 0 1 2 10 0", c, "3 2 3 3 19 0");
        checkParts("a+b*c", a, b, c, "3 1 2 2 10 0", "2 0 3 2 11 0");
        checkParts("a*b+c", a, b, "3 0 1 2 10 0", c, "2 2 3 2 11 0");
        checkParts("a*b^2", a, b, "4 1 2 2 18 0", "3 0 2 3 27 0");
        checkParts("a*-b", a, b, minusOne, "3 2 1 1 10 0", "3 0 3 2 19 0");
        checkParts("-a*b", a, minusOne, "3 1 0 1 10 0", b, "3 2 3 2 19 0");
        checkParts("-a^2", a, "4 0 2 2 18 0", minusOne, "3 2 1 2 27 0");
        checkParts("a-b*c", a, b, c, "3 1 2 2 10 0", minusOne, "3 4 3 2 19 0", "2 0 5 2 20 0");
        checkParts("a-b-c", a, b, minusOne, "3 2 1 1 10 0", "2 0 3 1 11 0", c, "3 2 5 1 10 0", "2 4 6 1 12 0");
        GradientDesk desk = new GradientDesk();
        define(desk, "b*c", 0);
        due("a name makes no part", define(desk, "A", 1), 2);
        due("a name is what has it then", define(desk, "A+a", 0), 4);
        due("the other stays", define(desk, "B", 2), 2);
        due("a name stands for the whole", define(desk, "A^2", 0), 5);
        due("written", written(desk, 0), "((b*c)+a)^2");
    }

    // ---- the limits

    private static void sizesOfNumbers() {
        about("3: the bits of p (but 1 for 0), and the bits of q (but 0 for 1)");
        String[][] pairs = {{"0", "1 0"}, {"1", "1 0"}, {"2", "2 0"}, {"3", "2 0"}, {"4", "3 0"}, {"0/9", "1 0"},
            {"1/2", "1 2"}, {"1/3", "1 2"}, {"1/4", "1 3"}, {"5/5", "1 0"}, {"7/8", "3 4"}, {"9999/1", "14 0"},
            {"1/9999", "1 14"}, {"8191", "13 0"}, {"8192", "14 0"}};
        for (String[] pair : pairs) {
            GradientDesk desk = new GradientDesk();
            due("sizes of " + pair[0], look(desk, define(desk, pair[0], 0)), "0 -1 -1 0 " + pair[1]);
            int below = define(desk, "-" + pair[0], 1);
            due("sizes of -" + pair[0], look(desk, below), "0 -1 -1 0 " + pair[1]);
        }
    }

    private static void degrees() {
        about("3: none may have a DEGREE above 8");
        String[] good = {"a^8", "(a^4)^2", "(a^2)^4", "a^4*b^4", "a^7*c", "a*b*c*a*b*c*a*b", "(a*b)^4", "(a+b^2)^4", "a^8+b^8",
            "0*a^8", "(a^8)^0", "(a^8)^1", "7*a^8", "a^8*1/2", "-a^8"};
        for (String text : good) {
            due("define of " + text, define(new GradientDesk(), text, 0) >= 0, true);
        }
        GradientDesk eight = new GradientDesk();
        due("DEGREE of a^8", eight.part(define(eight, "a^8", 0), 3), 8);
        due("DEGREE of a^8+b", eight.part(define(eight, "A+b", 0), 3), 8);
        due("DEGREE of a^8*7", eight.part(define(eight, "A*7", 0), 3), 8);
        String[] large = {"a^9", "(a^3)^3", "(a^5)^2", "a^4*b^5", "a^8*c", "c*a^8", "a*b*c*a*b*c*a*b*c", "(a*b)^5",
            "(a+b^3)^3", "(a^8+b^8)*c", "(a^8)^2", "0*a^9", "(a^9)^0", "(a^9)^1"};
        for (String text : large) {
            refused(new GradientDesk(), text, LARGE);
        }
    }

    private static void numbersOf400Bits() {
        about("3: what comes of NUMBERS must not have a size above 400 (n)");
        GradientDesk desk = new GradientDesk();
        due("2^399 by a product", define(desk, twoTo(399), 0) >= 0, true);
        due("n", desk.part(desk.made() - 1, 4), 400);
        refused(desk, "A*2", LARGE);
        due("by a power", define(desk, "(" + twoTo(57) + ")^7", 1), define(desk, "A", 1));
        refused(desk, "(" + twoTo(50) + ")^8", LARGE);
        refused(new GradientDesk(), twoTo(400), LARGE);
        int greatest = define(desk, "A+(A-1)", 2);
        due("2^400 - 1 by a sum", look(desk, greatest), "0 -1 -1 0 400 0");
        refused(desk, "C+1", LARGE);
        refused(desk, "1+C", LARGE);
        refused(desk, "A+A", LARGE);
        due("the same below 0", define(desk, "-C", 3) >= 0, true);
        refused(desk, "D-1", LARGE);
        refused(desk, "-A-A", LARGE);
        due("back from the edge", define(desk, "C-C", 4), define(desk, "0", 5));
        for (int n = 2; n <= 9; n++) {
            refused(desk, "A^" + n, LARGE);
            refused(desk, "D^" + n, LARGE);
        }
    }

    private static void denominatorsOf400Bits() {
        about("3: what comes of NUMBERS must not have a size above 400 (d)");
        GradientDesk desk = new GradientDesk();
        due("1 / 2^399 by a product", look(desk, define(desk, halfTo(399), 0)), "0 -1 -1 0 1 400");
        refused(desk, "A*1/2", LARGE);
        due("by a power", define(desk, "(" + halfTo(57) + ")^7", 1), define(desk, "A", 1));
        refused(desk, "(" + halfTo(50) + ")^8", LARGE);
        refused(new GradientDesk(), halfTo(400), LARGE);
        due("by a sum", look(desk, define(desk, "A*2+1/3", 1)), "0 -1 -1 0 399 400");
        refused(desk, "A+1/3", LARGE);
        refused(desk, "1/3-A", LARGE);
        due("1 + 2^-399 has 400 bits of both", look(desk, define(desk, "1+A", 2)), "0 -1 -1 0 400 400");
        due("2 - 2^-399 too", look(desk, define(desk, "2-A", 3)), "0 -1 -1 0 400 400");
        refused(desk, "2+A", LARGE);
        for (int n = 2; n <= 9; n++) {
            refused(desk, "A^" + n, LARGE);
            refused(desk, "C^" + n, LARGE);
        }
    }

    private static void numbersAreMeasuredReduced() {
        about("3: fractions have no common divisor when they are measured");
        GradientDesk desk = new GradientDesk();
        define(desk, twoTo(399), 0);
        define(desk, halfTo(399), 1);
        due("2^399 * 2^-399", define(desk, "A*B", 2), define(desk, "1", 2));
        due("2^-399 + 2^-399", look(desk, define(desk, "B+B", 3)), "0 -1 -1 0 1 399");
        due("2^-399 - 2^-399", define(desk, "B-B", 3), define(desk, "0", 3));
        refused(desk, "A+B", LARGE);
    }

    private static void sizeNOfProductsAndSums() {
        about("3: none may have a size above 400 (n of PRODUCT n + n' + 8, of SUM 1 + the greater of n + d' and n' + d)");
        GradientDesk desk = new GradientDesk();
        define(desk, twoTo(389), 0);
        due("n of 399", look(desk, define(desk, "a*A", 1)).endsWith(" 1 399 0"), true);
        due("the greater of both", look(desk, define(desk, "B+a", 2)).endsWith(" 1 400 0"), true);
        due("the other way round", look(desk, define(desk, "a+B", 2)).endsWith(" 1 400 0"), true);
        due("of two that are as great", look(desk, define(desk, "B+B", 2)).endsWith(" 1 400 0"), true);
        refused(desk, "C+a", LARGE);
        refused(desk, "a+C", LARGE);
        due("a product with n of 400", look(desk, define(desk, "(A*2)*a", 3)).endsWith(" 1 400 0"), true);
        refused(desk, "(A*4)*a", LARGE);
        refused(desk, "a*(A*4)", LARGE);
        GradientDesk thin = new GradientDesk();
        define(thin, "a*(" + halfTo(388) + ")", 0);
        due("n + d' of 399", look(thin, define(thin, "b*c+A", 1)).endsWith(" 2 400 389"), true);
        due("n' + d of 399", look(thin, define(thin, "A+b*c", 1)).endsWith(" 2 400 389"), true);
        refused(thin, "2*b+A", LARGE);
        refused(thin, "A+2*b", LARGE);
    }

    private static void sizeNOfPowers() {
        about("3: none may have a size above 400 (n of POWER e * (n + 8))");
        GradientDesk desk = new GradientDesk();
        define(desk, "a*(" + twoTo(182) + ")", 0);
        due("n of 192", desk.part(desk.made() - 1, 4), 192);
        due("its square has 400", look(desk, define(desk, "A^2", 1)).endsWith(" 2 400 0"), true);
        refused(desk, "(A+a)^2", LARGE);
        GradientDesk fifth = new GradientDesk();
        define(fifth, "a*(" + twoTo(62) + ")", 0);
        due("n of 72, and its fifth power", look(fifth, define(fifth, "A^5", 1)).endsWith(" 5 400 0"), true);
        refused(fifth, "(A+a)^5", LARGE);
        refused(fifth, "A^6", LARGE);
    }

    private static void sizeD() {
        about("3: none may have a size above 400 (d)");
        GradientDesk desk = new GradientDesk();
        define(desk, "a*(" + halfTo(200) + ")", 0);
        define(desk, "b*(" + halfTo(198) + ")", 1);
        due("d of 201", desk.part(define(desk, "A", 3), 5), 201);
        due("d of 199", desk.part(define(desk, "B", 3), 5), 199);
        due("a sum with d of 400", desk.part(define(desk, "A+B", 3), 5), 400);
        due("a product with d of 400", desk.part(define(desk, "A*B", 3), 5), 400);
        define(desk, "b*(" + halfTo(199) + ")", 2);
        due("a power with d of 400", desk.part(define(desk, "C^2", 3), 5), 400);
        refused(desk, "A+C", LARGE);
        refused(desk, "A*C", LARGE);
        refused(desk, "A^2", LARGE);
        GradientDesk number = new GradientDesk();
        due("a times 2^-399", look(number, define(number, "a*(" + halfTo(399) + ")", 0)).endsWith(" 1 10 400"), true);
        refused(number, "A*1/2", LARGE);
        due("an integer leaves d", number.part(define(number, "A*3", 1), 5), 400);
    }

    private static void largeBetween() {
        about("3: at the first part that would pass a limit");
        GradientDesk desk = new GradientDesk();
        define(desk, twoTo(399), 0);
        refused(desk, "0*(A*2)", LARGE);
        refused(desk, "A*2*0", LARGE);
        refused(desk, "A*2-A*2", LARGE);
        refused(desk, "(A*2)^0", LARGE);
        refused(desk, "A*2*1/2", LARGE);
        due("but not if it is never made", define(desk, "A*(2*0)", 1), define(desk, "0", 1));
        due("nor if it is halved before", define(desk, "A*1/2*2", 1), define(desk, "A", 1));
    }

    private static void roomForParts() {
        about("3: at most 200 parts are there");
        GradientDesk desk = new GradientDesk();
        fillTo(desk, 199);
        due("the 200th", define(desk, "b", 0), 199);
        due("made", desk.made(), 200);
        refused(desk, "c", FULL);
        refused(desk, "1", FULL);
        refused(desk, "a*a", FULL);
        refused(desk, "a^2", FULL);
        refused(desk, "-a", FULL);
        refused(desk, "b+a", FULL);
        due("what is there already", define(desk, "a+a", 1), 1);
        due("a name", define(desk, "A", 2), 199);
        due("x^1", define(desk, "b^1", 3), 199);
        due("made", desk.made(), 200);
        desk.clear();
        due("there is room after clear", define(desk, "c", 0), 0);
    }

    private static void fullTakesBackAll() {
        about("3: all that was made by this call is taken back");
        GradientDesk desk = new GradientDesk();
        fillTo(desk, 198);
        refused(desk, "b+c", FULL);
        refused(desk, "b-a", FULL);
        due("two fit", define(desk, "b+a", 0), 199);
        due("the names that were there stay", desk.parts(7), 198);
        GradientDesk named = new GradientDesk();
        define(named, "b", 0);
        fillTo(named, 200);
        due("FULL for a name that is there", define(named, "c*A", 0), FULL);
        due("it stays", written(named, 0), "b");
        due("the text is empty", named.type('b', 1), 1);
        due("and goes on", named.define(1), 0);
    }

    private static void largeBeforeFull() {
        about("3: pass a limit, or (behind that) be one too many");
        GradientDesk desk = new GradientDesk();
        define(desk, twoTo(399), 0);
        define(desk, "b*(" + twoTo(390) + ")", 1);
        define(desk, halfTo(399), 2);
        define(desk, "2", 3);
        define(desk, "0", 3);
        fillTo(desk, 200);
        refused(desk, "a^9", LARGE);
        refused(desk, "A*2", LARGE);
        refused(desk, "A+A", LARGE);
        refused(desk, "A^2", LARGE);
        refused(desk, "A*A", LARGE);
        refused(desk, "C*C", LARGE);
        refused(desk, "B+a", LARGE);
        refused(desk, "B*a", LARGE);
        refused(desk, "B^2", LARGE);
        refused(desk, "c+a^9", FULL);
        refused(desk, "a^9+c", LARGE);
        refused(desk, "a^8", FULL);
    }

    // ---- promise 5

    private static void derivativesByRule() {
        about("5: the derivative of a part by a variable");
        String[][] rows = {{"5/7", "0", "0", "0"}, {"0", "0", "0", "0"}, {"a", "1", "0", "0"}, {"b", "0", "1", "0"},
            {"c", "0", "0", "1"}, {"a+b", "1", "1", "0"}, {"a+a", "2", "0", "0"}, {"a-a", "0", "0", "0"}, {"a*b", "b", "a", "0"},
            {"3*c", "0", "0", "3"}, {"c*3", "0", "0", "3"}, {"a^2", "(2*a)", "0", "0"}, {"b^3", "0", "(3*b^2)", "0"},
            {"c^8", "0", "0", "(8*c^7)"}, {"(a*b)^2", "((2*(a*b))*b)", "((2*(a*b))*a)", "0"},
            {"(2*a)^2", "((2*(2*a))*2)", "0", "0"}, {"a*a", "(a+a)", "0", "0"}};
        for (String[] row : rows) {
            for (int variable = 0; variable < 3; variable++) {
                GradientDesk desk = new GradientDesk();
                define(desk, row[0], 0);
                int part = desk.derive(0, variable, 1);
                due("of " + row[0] + " by " + variable, written(desk, 1), row[1 + variable]);
                due("it has the name", define(desk, "B", 2), part);
                due("the expression stays", define(desk, row[0], 3), define(desk, "A", 3));
            }
        }
        GradientDesk power = new GradientDesk();
        define(power, "(a+b)^3", 0);
        power.derive(0, 0, 1);
        String[] made = {"0 -1 -1 0 1 0", "0 -1 -1 0 1 0", "0 -1 -1 0 2 0", "4 2 2 2 20 0", "3 6 7 2 30 0"};
        for (int i = 0; i < made.length; i++) {
            due("1, 0, then n, x^(n-1), their product: part " + (4 + i), look(power, 4 + i), made[i]);
        }
        due("and no more, as that times 1 is that", power.made(), 9);
    }

    private static void derivativesOfTheirOwnPartsAlone() {
        about("5: it is made for all parts that an expression has, each once, from the least number on");
        GradientDesk desk = new GradientDesk();
        define(desk, "b^5+c*7", 0);
        define(desk, "a", 1);
        int before = desk.made();
        due("1 alone is made", desk.derive(1, 0, 2), before);
        due("made", desk.made(), before + 1);
        GradientDesk order = new GradientDesk();
        define(order, "b", 1);
        define(order, "a*a+b", 0);
        order.derive(0, 0, 2);
        order.number(4, 0);
        order.number(5, 1);
        due("0 for b, which has the least number, then 1 for a", results(order, 0, 1), "0/1 1/1");
        due("then a+a", look(order, 6), "2 1 1 1 2 0");
        due("made", order.made(), 7);
    }

    private static void deriveArguments() {
        about("5: a name is not 0 .. 7, or there is no such variable");
        GradientDesk desk = new GradientDesk();
        define(desk, "a*b*c", 0);
        define(desk, "A", 7);
        due("of 0, by 0, to 7", desk.derive(0, 0, 7) >= 0, true);
        due("of 7, by 2, to 0", desk.derive(7, 2, 0) >= 0, true);
        int before = desk.made();
        for (int bad : new int[] {-1, 8, LEAST, MOST}) {
            dueArgument("of " + bad, () -> desk.derive(bad, 0, 0));
            dueArgument("to " + bad, () -> desk.derive(0, 0, bad));
        }
        for (int bad : new int[] {-1, 3, LEAST, MOST}) {
            dueArgument("by " + bad, () -> desk.derive(0, bad, 0));
        }
        dueElement("an expression that is not there", () -> desk.derive(3, 0, 0));
        dueArgument("it is named behind a wrong variable", () -> desk.derive(3, 3, 0));
        dueArgument("and behind a wrong name", () -> desk.derive(3, 0, 8));
        due("nothing made", desk.made(), before);
        dueElement("no name given", () -> desk.parts(3));
    }

    private static void deriveIntoItself() {
        about("5: the derivative gets a name");
        GradientDesk desk = new GradientDesk();
        define(desk, "a^3", 0);
        define(desk, "A", 1);
        desk.derive(0, 0, 0);
        due("its own name", written(desk, 0), "(3*a^2)");
        due("the other name stays", written(desk, 1), "a^3");
        desk.derive(0, 0, 0);
        due("again", written(desk, 0), "(3*(2*a))");
        desk.derive(0, 0, 0);
        due("again", written(desk, 0), "6");
        desk.derive(0, 0, 0);
        due("again", written(desk, 0), "0");
        desk.derive(0, 0, 0);
        due("0 stays 0", written(desk, 0), "0");
    }

    private static void deriveAtTheLastRoom() {
        about("5: FULL");
        GradientDesk fits = new GradientDesk();
        define(fits, "b*c", 0);
        fillTo(fits, 198);
        due("1 and 0 still fit", fits.derive(0, 1, 1), 1);
        due("made", fits.made(), 200);
        due("all is there already", fits.derive(0, 2, 2), 0);
        GradientDesk full = new GradientDesk();
        define(full, "b*c", 0);
        define(full, "c", 2);
        fillTo(full, 199);
        due("0 is one too many", full.derive(0, 1, 1), FULL);
        due("1 is taken back", full.made(), 199);
        dueIndex("it is no part", () -> full.part(199, 0));
        dueElement("no name", () -> full.parts(1));
        due("a name that is there", full.derive(0, 1, 2), FULL);
        due("stays", written(full, 2), "c");
        due("its own name", full.derive(0, 1, 0), FULL);
        due("stays", written(full, 0), "(b*c)");
    }

    private static void deriveLarge() {
        about("5: LARGE");
        GradientDesk desk = new GradientDesk();
        define(desk, halfTo(98), 0);
        due("d of 198", desk.part(define(desk, "(a*A)*(a*A)", 1), 5), 198);
        due("its derivative has a d of 396", desk.part(desk.derive(1, 0, 2), 5), 396);
        define(desk, halfTo(99), 0);
        due("d of 200", desk.part(define(desk, "(a*A)*(a*A)", 1), 5), 200);
        due("its derivative has a d of 400", desk.part(desk.derive(1, 0, 2), 5), 400);
        define(desk, "C", 3);
        define(desk, halfTo(100), 0);
        due("d of 202", desk.part(define(desk, "(a*A)*(a*A)", 1), 5), 202);
        int before = desk.made();
        due("a d of 404 can't be", desk.derive(1, 0, 2), LARGE);
        due("all is taken back", desk.made(), before);
        due("the name stays", define(desk, "C", 4), define(desk, "D", 4));
        due("by another variable it is 0", desk.derive(1, 1, 2), define(desk, "0", 4));
    }

    private static void deriveLargeBeforeFull() {
        about("5: pass a limit, or (behind that) be one too many");
        GradientDesk desk = new GradientDesk();
        define(desk, halfTo(150), 0);
        define(desk, "(a*A)*(a*A)", 1);
        define(desk, "0", 2);
        define(desk, "1", 2);
        define(desk, "A*(a*A)", 2);
        fillTo(desk, 199);
        due("the last part before the limit still fits", desk.derive(1, 0, 3), LARGE);
        due("made", desk.made(), 199);
        fillTo(desk, 200);
        due("now that part is one too many", desk.derive(1, 0, 3), FULL);
        due("made", desk.made(), 200);
        GradientDesk ready = new GradientDesk();
        define(ready, halfTo(150), 0);
        define(ready, "(a*A)*(a*A)", 1);
        define(ready, "0", 2);
        define(ready, "1", 2);
        define(ready, "A*(a*A)", 2);
        define(ready, "(a*A)*A", 2);
        fillTo(ready, 200);
        due("the part that passes the limit would be one too many", ready.derive(1, 0, 3), LARGE);
        due("made", ready.made(), 200);
        dueElement("no name", () -> ready.parts(3));
    }

    /** Part 0 is a part like any other: what stands beside it and can't be made is not lost. */
    private static void deriveBesidePartZero() {
        about("5: LARGE and FULL beside part 0");
        GradientDesk full = new GradientDesk();
        define(full, "0", 0);
        define(full, "b*a^2", 1);
        define(full, "1*(2*a)", 2);
        fillTo(full, 200);
        due("0 * a^2 is part 0, b * (2*a) is one too many", full.derive(1, 0, 3), FULL);
        due("made", full.made(), 200);
        GradientDesk power = new GradientDesk();
        define(power, "3", 0);
        define(power, "(a+b)^3", 1);
        define(power, "0*1", 2);
        fillTo(power, 200);
        due("3 is part 0, (a+b)^2 is one too many", power.derive(1, 0, 3), FULL);
        due("made", power.made(), 200);
        GradientDesk large = new GradientDesk();
        define(large, "0", 0);
        define(large, halfTo(49), 1);
        define(large, "(a*B)*(a*B)", 2);
        define(large, "(b*(" + halfTo(250) + "))*C", 3);
        int before = large.made();
        due("0 * C is part 0, a d of 451 can't be", large.derive(3, 0, 4), LARGE);
        due("made", large.made(), before);
    }

    // ---- promises 6 to 10

    private static void madeAndParts() {
        about("6 and 7: how many parts");
        GradientDesk desk = new GradientDesk();
        due("made at first", desk.made(), 0);
        define(desk, "3", 0);
        due("made", desk.made(), 1);
        due("a number has one part", desk.parts(0), 1);
        define(desk, "(a+a)*(a+a)", 1);
        due("each counted once", desk.parts(1), 3);
        define(desk, "B^2", 2);
        due("an exponent is no part", desk.parts(2), 4);
        due("not those of others", desk.made(), 5);
        fillTo(desk, 200);
        due("of 200 all but 3, (a+a)*(a+a) and its square", desk.parts(7), 197);
        for (int bad : new int[] {-1, 8, LEAST, MOST}) {
            dueArgument("parts(" + bad + ")", () -> desk.parts(bad));
        }
        for (int none = 3; none < 7; none++) {
            int name = none;
            dueElement("parts(" + none + ")", () -> desk.parts(name));
        }
        GradientDesk all = new GradientDesk();
        fillTo(all, 200);
        due("an expression of 200 parts", all.parts(7), 200);
        all.set(0, 1, 100);
        all.gradient(7);
        due("its value and derivatives", results(all, 0, 3), "2/1 200/1 0/1 0/1");
        due("it is too long to write", all.write(7), LARGE);
    }

    private static void partIndices() {
        about("8: there is no such part; another what; -1 for what it has not");
        GradientDesk desk = new GradientDesk();
        dueIndex("part(0, 0) at first", () -> desk.part(0, 0));
        define(desk, "2/3*b^2+a", 0);
        String[] due = {"0 -1 -1 0 2 2", "1 1 -1 1 1 0", "4 1 2 2 18 0", "3 0 2 2 28 2", "1 0 -1 1 1 0", "2 3 4 2 29 2"};
        for (int i = 0; i < due.length; i++) {
            due("part " + i, look(desk, i), due[i]);
        }
        for (int bad : new int[] {-1, 6, 199, 200, LEAST, MOST}) {
            dueIndex("part(" + bad + ", 0)", () -> desk.part(bad, 0));
            dueIndex("index before argument: part(" + bad + ", 6)", () -> desk.part(bad, 6));
        }
        for (int bad : new int[] {-1, 6, LEAST, MOST}) {
            dueArgument("part(0, " + bad + ")", () -> desk.part(0, bad));
            dueArgument("part(5, " + bad + ")", () -> desk.part(5, bad));
        }
        desk.clear();
        dueIndex("part(0, 0) after clear", () -> desk.part(0, 0));
        GradientDesk full = new GradientDesk();
        fillTo(full, 200);
        due("part 199", look(full, 199), "2 198 0 1 200 0");
        dueIndex("part(200, 0)", () -> full.part(200, 0));
    }

    private static void numberIndices() {
        about("9: RESULT r becomes the fraction of part i, or 0 if that is no NUMBER");
        GradientDesk desk = new GradientDesk();
        dueIndex("number(0, 0) at first", () -> desk.number(0, 0));
        define(desk, "-6/4*b^2+a*0", 0);
        due("into RESULT 0", desk.number(0, 0), true);
        due("into RESULT 7", desk.number(2, 7), true);
        due("RESULTS 0 and 7", result(desk, 0) + " " + result(desk, 7), "3/2 -3/2");
        for (int bad : new int[] {-1, desk.made(), 200, LEAST, MOST}) {
            dueIndex("number(" + bad + ", 7)", () -> desk.number(bad, 7));
        }
        for (int bad : new int[] {-1, 8, LEAST, MOST}) {
            dueIndex("number(0, " + bad + ")", () -> desk.number(0, bad));
            dueIndex("number(3, " + bad + ")", () -> desk.number(3, bad));
        }
        due("nothing changed", result(desk, 0) + " " + result(desk, 7), "3/2 -3/2");
        due("a variable", desk.number(3, 7), false);
        due("is 0", result(desk, 7), "0/1");
        desk.number(2, 7);
        due("a power", desk.number(4, 7), false);
        due("is 0", result(desk, 7), "0/1");
        desk.number(2, 7);
        due("a product", desk.number(5, 7), false);
        due("is 0", result(desk, 7), "0/1");
        due("the NUMBER 0 is one", desk.number(7, 0), true);
        due("0", result(desk, 0), "0/1");
        GradientDesk sum = new GradientDesk();
        due("a sum", sum.number(define(sum, "a+1", 0), 7), false);
        GradientDesk edge = new GradientDesk();
        define(edge, twoTo(399), 0);
        define(edge, halfTo(399), 1);
        due("400 bits", edge.number(define(edge, "-(1+B)", 2), 3), true);
        BigInteger two = BigInteger.ONE.shiftLeft(399);
        due("are all there", result(edge, 3), two.add(BigInteger.ONE).negate() + "/" + two);
    }

    private static void clearing() {
        about("10: all parts and names go (the text, the POINT and RESULTS stay)");
        GradientDesk empty = new GradientDesk();
        empty.clear();
        due("a new object", empty.made(), 0);
        due("and its first part", define(empty, "a", 0), 0);
        GradientDesk desk = new GradientDesk();
        for (int name = 0; name < 8; name++) {
            define(desk, "1/" + (name + 2), name);
            desk.number(name, name);
        }
        desk.set(0, 1, 3);
        desk.set(1, -1, 5);
        desk.set(2, 7, 1);
        typeAll(desk, "a+b*");
        desk.clear();
        for (int name = 0; name < 8; name++) {
            int gone = name;
            dueElement("the name " + name, () -> desk.parts(gone));
        }
        due("made", desk.made(), 0);
        due("RESULTS", results(desk, 0, 7), "1/2 1/3 1/4 1/5 1/6 1/7 1/8 1/9");
        due("the text", desk.type('c', 1), 5);
        due("its parts begin at 0", desk.define(0), 4);
        desk.along(0, 1, 2, 3);
        due("the POINT", result(desk, 4), "-16/15");
        desk.clear();
        define(desk, "7", 0);
        desk.gradient(0);
        desk.along(0, 1, 2, 3);
        due("nothing of the parts that were there is left", results(desk, 0, 5), "7/1 0/1 0/1 0/1 7/1 0/1");
    }
}
