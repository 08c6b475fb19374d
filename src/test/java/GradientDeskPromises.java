import java.math.BigInteger;

/** Each promise of the document by itself: ordinary inputs, the edges that it names, and wrong inputs. */
public final class GradientDeskPromises extends Bench {
    public static void main(String[] args) {
        constants();
        newObject();
        type();
        define();
        sharing();
        making();
        limits();
        tooMany();
        place();
        derive();
        deriveLimits();
        made();
        parts();
        part();
        number();
        clear();
        set();
        gradient();
        along();
        reckon();
        reckonLong();
        compare();
        sign();
        bits();
        word();
        write();
        written();
        end("all promises are kept");
    }

    private static int placeOf(String text) {
        GradientDesk desk = new GradientDesk();
        int answer = define(desk, text, 0);
        due("define of " + text, answer, SYNTAX);
        return desk.place();
    }

    // ---- the promises

    private static void constants() {
        about("constants");
        due("SYNTAX", SYNTAX, -1);
        due("UNKNOWN", UNKNOWN, -2);
        due("LARGE", LARGE, -3);
        due("FULL", FULL, -4);
    }

    private static void newObject() {
        about("1");
        GradientDesk desk = new GradientDesk();
        due("made", desk.made(), 0);
        due("place", desk.place(), -1);
        due("the first type", desk.type('a', 1), 1);
        dueIndex("part(0, 0)", () -> desk.part(0, 0));
        dueIndex("written(0)", () -> desk.written(0));
        for (int i = 0; i < 8; i++) {
            int name = i;
            dueElement("parts(" + i + ")", () -> desk.parts(name));
            due("RESULT " + i, result(desk, i), "0/1");
        }
    }

    private static void type() {
        about("2");
        GradientDesk desk = new GradientDesk();
        due("eight", desk.type(packed("(a+b)*(c"), 8), 8);
        due("the bytes behind n do not count", desk.type(packed("-1)") | 0xff00L << 24, 3), 11);
        dueArgument("n = 0", () -> desk.type('a', 0));
        dueArgument("n = 9", () -> desk.type('a', 9));
        dueArgument("n = -1", () -> desk.type('a', -1));
        dueArgument("character 31", () -> desk.type('a' | 31 << 8, 2));
        dueArgument("character 127", () -> desk.type(127, 1));
        dueArgument("character 0", () -> desk.type('a', 2));
        dueArgument("character 255", () -> desk.type(-1L, 8));
        dueArgument("character 128", () -> desk.type('a' | 128L << 56, 8));
        due("characters 32 and 126", desk.type(32 | 126 << 8, 2), 13);
        for (int i = 0; i < 6; i++) {
            desk.type(packed("aaaaaaaa"), 8);
        }
        due("63 characters", desk.type('a', 1), 62);
        dueState("three more", () -> desk.type(packed("aaa"), 3));
        dueArgument("a wrong character comes first", () -> desk.type(packed("aa") | 1 << 16, 3));
        due("64 characters", desk.type(packed("aa"), 2), 64);
        dueState("one more", () -> desk.type('a', 1));
        desk.define(0);
        due("the place of the blank", desk.place(), 11);
        GradientDesk full = new GradientDesk();
        due("a good text of 64", define(full, "-a" + "+a".repeat(31), 0), 33);
        due("all of it is read", full.parts(0), 34);
        due("a text of 64", define(full, "a" + "+a".repeat(31) + "*", 0), SYNTAX);
        due("its place", full.place(), 64);
    }

    private static void define() {
        about("3");
        GradientDesk desk = new GradientDesk();
        due("a", define(desk, "a", 0), 0);
        due("the text is empty", desk.define(0), SYNTAX);
        typeAll(desk, "b");
        dueArgument("name -1", () -> desk.define(-1));
        dueArgument("name 8", () -> desk.define(8));
        due("the text stands after a throw", desk.define(7), 1);
        due("a name of itself", define(desk, "A+A", 0), 2);
        due("a name of the new one", define(desk, "A*H", 0), 3);
        due("written", written(desk, 0), "((a+a)*b)");
        due("UNKNOWN", define(desk, "c+B", 2), UNKNOWN);
        due("nothing made", desk.made(), 4);
        dueElement("no name", () -> desk.parts(2));
        due("SYNTAX before UNKNOWN", define(desk, "B+", 2), SYNTAX);
        due("UNKNOWN before LARGE", define(desk, "a^9+B", 2), UNKNOWN);
        due("the name stays", written(desk, 0), "((a+a)*b)");
        due("LARGE", define(desk, "c*c*c*c*c*c*c*c*c", 0), LARGE);
        due("nothing kept", desk.made(), 4);
        due("the text is empty", desk.type('a', 1), 1);
        due("a 1/2 with zeros", define(desk, "+0001/0002", 0), 5);
        due("written", written(desk, 0), "(a+1/2)");
        due("all names", define(desk, "A", 3), define(desk, "A", 4));
    }

    private static void sharing() {
        about("3 (parts are there once)");
        GradientDesk desk = new GradientDesk();
        due("a+b", define(desk, "a+b", 0), 2);
        due("a+b again", define(desk, "((a)+(b))", 1), 2);
        due("b+a is another", define(desk, "b+a", 1), 3);
        due("a*b", define(desk, "a*b", 1), 4);
        due("a^2", define(desk, "a^2", 1), 5);
        due("a^3", define(desk, "a^3", 1), 6);
        due("2/4", define(desk, "2/4", 1), 7);
        due("1/2", define(desk, "1/2", 1), 7);
        due("0500/1000", define(desk, "0500/1000", 1), 7);
        due("-1/2", define(desk, "-1/2", 1), 9);
        due("0/7", define(desk, "0/7", 1), 10);
        due("0", define(desk, "0000", 1), 10);
        due("made", desk.made(), 11);
    }

    private static void making() {
        about("3 (how parts are made)");
        checkParts("a+b*c", "1 0 -1 1 1 0", "1 1 -1 1 1 0", "1 2 -1 1 1 0", "3 1 2 2 10 0", "2 0 3 2 11 0");
        checkParts("a-b", "1 0 -1 1 1 0", "1 1 -1 1 1 0", "0 -1 -1 0 1 0", "3 2 1 1 10 0", "2 0 3 1 11 0");
        checkParts("--a^2", "1 0 -1 1 1 0", "4 0 2 2 18 0", "0 -1 -1 0 1 0", "3 2 1 2 27 0", "3 2 3 2 36 0");
        checkParts("-2*a", "0 -1 -1 0 2 0", "0 -1 -1 0 1 0", "0 -1 -1 0 2 0", "1 0 -1 1 1 0", "3 2 3 1 11 0");
        checkParts("2^3", "0 -1 -1 0 2 0", "0 -1 -1 0 4 0");
        checkParts("3/4^2", "0 -1 -1 0 2 3", "0 -1 -1 0 4 5");
        checkParts("1/2+1/2", "0 -1 -1 0 1 2", "0 -1 -1 0 1 0");
        checkParts("2*1/2", "0 -1 -1 0 2 0", "0 -1 -1 0 1 2", "0 -1 -1 0 1 0");
        checkParts("0+a", "0 -1 -1 0 1 0", "1 0 -1 1 1 0");
        checkParts("a+0", "1 0 -1 1 1 0", "0 -1 -1 0 1 0");
        checkParts("a*0", "1 0 -1 1 1 0", "0 -1 -1 0 1 0");
        checkParts("1*a", "0 -1 -1 0 1 0", "1 0 -1 1 1 0");
        checkParts("a^0", "1 0 -1 1 1 0", "0 -1 -1 0 1 0");
        checkParts("a^1", "1 0 -1 1 1 0");
        checkParts("0^0", "0 -1 -1 0 1 0", "0 -1 -1 0 1 0");
        checkParts("0^5", "0 -1 -1 0 1 0");
        checkParts("a*1/3+b*2/3", "1 0 -1 1 1 0", "0 -1 -1 0 1 2", "3 0 1 1 10 2", "1 1 -1 1 1 0", "0 -1 -1 0 2 2",
                "3 3 4 1 11 2", "2 2 5 1 14 4");
        checkParts("(a+1/3)^2", "1 0 -1 1 1 0", "0 -1 -1 0 1 2", "2 0 1 1 4 2", "4 2 2 2 24 4");
        checkParts("(a^2)^3", "1 0 -1 1 1 0", "4 0 2 2 18 0", "4 1 3 6 78 0");
        checkParts("(-1)^3*a", "0 -1 -1 0 1 0", "0 -1 -1 0 1 0", "1 0 -1 1 1 0", "3 1 2 1 10 0");
        checkParts("a-(-1)*-1", "1 0 -1 1 1 0", "0 -1 -1 0 1 0", "0 -1 -1 0 1 0", "2 0 2 1 2 0");
        GradientDesk desk = new GradientDesk();
        due("0*a is 0", define(desk, "0*a", 0), 0);
        due("a*1 is a", define(desk, "a*1", 0), 1);
        due("a-0 is a", define(desk, "a-0", 0), 1);
        due("-0 is 0", define(desk, "-0", 0), 0);
        due("written", written(desk, 0), "0");
    }

    private static void limits() {
        about("3 (limits)");
        GradientDesk desk = new GradientDesk();
        due("DEGREE 8", define(desk, "a^8", 0), 1);
        due("DEGREE 9", define(desk, "a^9", 1), LARGE);
        due("DEGREE 9 by a product", define(desk, "A*a", 1), LARGE);
        due("DEGREE 8 by a sum", define(desk, "A+a", 1), 2);
        due("DEGREE 12 by a power", define(desk, "(a^4)^3", 1), LARGE);
        due("made", desk.made(), 3);
        due("0 * is no product", define(desk, "0*A*a*a", 1), 3);
        due("9999^9", define(desk, "9999^9", 1), 5);
        due("9999^27", define(desk, "B*B*B", 2), 7);
        due("too many bits of p", define(desk, "B*C", 3), LARGE);
        due("made", desk.made(), 8);
        due("too many bits of q", define(desk, "(1/9999^9)^4", 3), LARGE);
        due("made", desk.made(), 8);
        due("2^396", define(desk, "((2^9)^4)^9*2^9*2^9*2^9*2^9*2^9*2^9*2^9*2^9", 3) >= 0, true);
        due("its size", desk.part(desk.made() - 1, 4), 397);
        due("2^399 has 400 bits", define(desk, "D*2^3", 3) >= 0, true);
        due("its size", desk.part(desk.made() - 1, 4), 400);
        int before = desk.made();
        due("2^400 has 401 bits", define(desk, "D*2", 4), LARGE);
        due("made", desk.made(), before);
        due("1 / 2^399 has 400 bits of q", define(desk, "((1/2^9)^4)^9*1/2^9*1/2^9*1/2^9*1/2^9*1/2^9*1/2^9*1/2^9", 5) >= 0, true);
        due("more", define(desk, "F*1/2^9", 5) >= 0, true);
        due("more", define(desk, "F*1/8", 5) >= 0, true);
        due("its size", look(desk, desk.made() - 1), "0 -1 -1 0 1 400");
        due("1 / 2^400", define(desk, "F*1/2", 4), LARGE);
        due("back to short numbers", define(desk, "D*F", 4) >= 0, true);
        due("is 1", written(desk, 4), "1");
        due("a power of 400 bits", define(desk, "((2^9)^6*2^3)^7", 4) >= 0, true);
        due("is 2^399", define(desk, "E-D", 4), define(desk, "0", 4));
        due("a power with 400 bits of q", define(desk, "((1/2^9)^6*1/8)^7", 4), define(desk, "F", 4));
        due("a power of 401 bits", define(desk, "((2^8)^5)^5*(2^8)^5*(2^8)^5*(2^8)^5*(2^8)^5*(2^8)^5", 4), LARGE);
        due("a power of 401 bits", define(desk, "((2^8)^5*(2^8)^5)^5", 4), LARGE);
        due("a power with 401 bits of q", define(desk, "((1/2^8)^5*(1/2^8)^5)^5", 4), LARGE);
        due("a sum of numbers is reduced before it is measured", define(desk, "F-F+1", 4), define(desk, "1", 4));
        sizeLimits();
    }

    private static void sizeLimits() {
        GradientDesk desk = new GradientDesk();
        define(desk, "9999^9*9999^9", 0);
        int product = define(desk, "A*a", 1);
        due("n of a product", desk.part(product, 4), 240 + 1 + 8);
        int more = define(desk, "B*9999^9", 1);
        due("n of more", desk.part(more, 4), 249 + 120 + 8);
        due("n of 400", define(desk, "B*8191", 2), desk.made() - 1);
        due("n", desk.part(desk.made() - 1, 4), 377 + 13 + 8 + 0);
        due("n of 399 and a sum", define(desk, "C+a", 2) >= 0, true);
        due("n", desk.part(desk.made() - 1, 4), 399);
        due("n of 400", define(desk, "C+a", 2) >= 0, true);
        due("n", desk.part(desk.made() - 1, 4), 400);
        int before = desk.made();
        due("n of 401", define(desk, "C+a", 2), LARGE);
        due("n of 401 by b", define(desk, "C+b", 2), LARGE);
        due("made", desk.made(), before);
        GradientDesk thin = new GradientDesk();
        define(thin, "1/9999^9*a", 0);
        due("d", thin.part(thin.made() - 1, 5), 120);
        due("d of 360", define(thin, "A^3", 1) >= 0, true);
        due("d", thin.part(thin.made() - 1, 5), 360);
        due("n", thin.part(thin.made() - 1, 4), 3 * (10 + 8));
        due("d of 480", define(thin, "A^4", 2), LARGE);
        due("n of a sum by d", define(thin, "B+A", 2), LARGE);
        due("d of 400", define(thin, "B*1/1024*1/1024*1/1024*1/127", 2) >= 0, true);
        due("d", thin.part(thin.made() - 1, 5), 360 + 33 + 7);
        due("d of 401", define(thin, "B*1/1024*1/1024*1/1024*1/128", 3), LARGE);
    }

    private static void tooMany() {
        about("3 (too many)");
        GradientDesk desk = new GradientDesk();
        fillTo(desk, 199);
        due("199", desk.made(), 199);
        due("two too many", define(desk, "9998*9998", 1), FULL);
        due("199", desk.made(), 199);
        due("the 200th", define(desk, "9998", 1), 199);
        due("200", desk.made(), 200);
        due("one too many", define(desk, "9997", 2), FULL);
        due("what is there can be made", define(desk, "9998", 2), 199);
        due("a sum that is there", define(desk, "a+a", 3), 1);
        due("LARGE comes before FULL", define(desk, "a^9", 5), LARGE);
        due("but not a part that is FULL before", define(desk, "c*c+a^9", 5), FULL);
        due("a number that is one too many", define(desk, "9998^9", 5), FULL);
        due("200", desk.made(), 200);
        dueElement("no name", () -> desk.parts(5));
    }

    private static void place() {
        about("4");
        String[] texts = {"", "a+", "a+*b", "12345", "1/0", "1/00", "1/000", "1/0000", "1/0+", "1/00001", "1/12345", "1/",
            "1/a", "1//2", "1/2/3", "a/2", "A/2", "(1)/2", "a^", "a^a", "a^12", "a^2^2", "a^-1", "2^2a", "(", "((", "()",
            "(a", "(a))", ")", "a)", "d", "I", "@", "`", "a b", " a", "a ", "ab", "aA", "2a", "a2", "(a)(b)", "a(b)", "+a",
            "*a", "a**b", "a--", "-", "--", "a-+b", "^2", "(a+b)^", "(a+b)^(2)", "1.5", "a=b", "-*a", "1/02a", "1/0002/1",
            "1234/5678^1^", "a+(b*(c-", "~", "/2", "1/0a", "(1/0)", "0000/0000", "00000"};
        int[] places = {0, 2, 2, 4, 3, 4, 5, 5, 3, 5, 6, 2,
            2, 2, 3, 1, 1, 3, 2, 2, 3, 3, 2, 3, 1, 2, 1,
            2, 3, 0, 1, 0, 0, 0, 0, 1, 0, 1, 1, 1, 1, 1, 3, 1, 0,
            0, 2, 3, 1, 2, 2, 0, 6, 6, 1, 1, 1, 4, 6,
            11, 8, 0, 0, 3, 4, 8, 4};
        for (int i = 0; i < texts.length; i++) {
            due("place of " + texts[i], placeOf(texts[i]), places[i]);
        }
        GradientDesk desk = new GradientDesk();
        define(desk, "a+", 0);
        due("place", desk.place(), 2);
        dueArgument("define(9)", () -> desk.define(9));
        desk.type('a', 1);
        desk.clear();
        desk.made();
        due("place stays", desk.place(), 2);
        due("place stays", desk.place(), 2);
        desk.define(0);
        due("place after a good one", desk.place(), -1);
        define(desk, "(", 0);
        define(desk, "B", 0);
        due("place after UNKNOWN", desk.place(), -1);
        define(desk, "(", 0);
        define(desk, "a^9", 0);
        due("place after LARGE", desk.place(), -1);
        define(desk, "((", 0);
        desk.derive(0, 0, 1);
        due("place after derive", desk.place(), 2);
        due("64 open", placeOf("(".repeat(64)), 64);
        due("64 minus", placeOf("-".repeat(64)), 64);
        GradientDesk deep = new GradientDesk();
        due("31 deep", define(deep, "(".repeat(31) + "a" + ")".repeat(31), 0), 0);
        due("63 minus", define(deep, "-".repeat(7) + "a", 0), 8);
    }

    private static void derive() {
        about("5");
        checkDerivative("7/3", 0, "0");
        checkDerivative("a", 0, "1");
        checkDerivative("a", 1, "0");
        checkDerivative("a+b", 1, "1");
        checkDerivative("a*b", 0, "b");
        checkDerivative("a*b", 1, "a");
        checkDerivative("a*a", 0, "(a+a)");
        checkDerivative("a^2", 0, "(2*a)");
        checkDerivative("c^5", 2, "(5*c^4)");
        checkDerivative("(a*b)^3", 1, "((3*(a*b)^2)*a)");
        checkDerivative("(a+a)^2", 0, "((2*(a+a))*2)");
        checkDerivative("a^2*b+3/4*c-(a-b)^3", 1, "(a^2+(-1*((3*(a+(-1*b))^2)*-1)))");
        checkDerivative("(a+1/2)*(b-1/3)", 0, "(b+-1/3)");
        GradientDesk desk = new GradientDesk();
        define(desk, "a*b", 0);
        due("the same again", desk.derive(0, 0, 1), 1);
        due("makes 1 and 0", desk.made(), 5);
        due("1 is first", look(desk, 3), "0 -1 -1 0 1 0");
        due("0 then", desk.number(4, 0) && desk.sign(0) == 0, true);
        due("into itself", desk.derive(0, 1, 0), 0);
        due("written", written(desk, 0), "a");
        dueArgument("of -1", () -> desk.derive(-1, 0, 0));
        dueArgument("of 8", () -> desk.derive(8, 0, 0));
        dueArgument("name -1", () -> desk.derive(0, 0, -1));
        dueArgument("name 8", () -> desk.derive(0, 0, 8));
        dueArgument("variable -1", () -> desk.derive(0, -1, 0));
        dueArgument("variable 3", () -> desk.derive(0, 3, 0));
        dueArgument("argument before element", () -> desk.derive(5, 3, 0));
        dueArgument("argument before element", () -> desk.derive(5, 0, 8));
        dueElement("no expression", () -> desk.derive(5, 0, 0));
        checkOrderOfParts();
    }

    private static void checkDerivative(String text, int variable, String want) {
        GradientDesk desk = new GradientDesk();
        define(desk, text, 0);
        int part = desk.derive(0, variable, 1);
        due("derivative of " + text, written(desk, 1), want);
        due("its part", define(desk, "B", 2), part);
    }

    /** A derivative is made from the least part on, also of parts whose own one is not needed. */
    private static void checkOrderOfParts() {
        GradientDesk desk = new GradientDesk();
        define(desk, "b+a*2", 0);
        desk.derive(0, 0, 1);
        due("0 for b", look(desk, 5), "0 -1 -1 0 1 0");
        desk.number(5, 0);
        due("0 for b", result(desk, 0), "0/1");
        desk.number(6, 0);
        due("1 for a", result(desk, 0), "1/1");
        due("2 is there", desk.made(), 7);
        due("it is 2", written(desk, 1), "2");
    }

    private static void deriveLimits() {
        about("5 (limits)");
        GradientDesk desk = new GradientDesk();
        define(desk, "9999^9*9999^9*a", 0);
        define(desk, "A*(b+9999^9)", 1);
        int before = desk.made();
        due("a derivative that fits", desk.derive(1, 0, 2) >= 0, true);
        due("more", desk.made() > before, true);
        define(desk, "1/9999^9*a", 3);
        due("d of 240", define(desk, "D*D", 3) >= 0, true);
        int there = desk.made();
        due("LARGE", desk.derive(3, 0, 4), LARGE);
        due("all is taken back", desk.made(), there);
        dueElement("no name", () -> desk.parts(4));
        GradientDesk many = new GradientDesk();
        define(many, "(a+b)^3", 1);
        fillTo(many, 199);
        due("FULL", many.derive(1, 0, 2), FULL);
        due("all is taken back", many.made(), 199);
        dueElement("no name", () -> many.parts(2));
        due("the name stays", written(many, 1), "(a+b)^3");
    }

    private static void made() {
        about("6");
        GradientDesk desk = new GradientDesk();
        define(desk, "a", 0);
        due("1", desk.made(), 1);
        define(desk, "a*a-a", 0);
        due("5", desk.made(), 5);
        desk.clear();
        due("0", desk.made(), 0);
    }

    private static void parts() {
        about("7");
        GradientDesk desk = new GradientDesk();
        define(desk, "a*b+a*b", 0);
        due("each once", desk.parts(0), 4);
        define(desk, "c^5", 1);
        due("a power and its operand", desk.parts(1), 2);
        define(desk, "7", 2);
        due("a number", desk.parts(2), 1);
        define(desk, "A*B+C", 3);
        due("all", desk.parts(3), 9);
        define(desk, "0*a", 4);
        due("only what it has", desk.parts(4), 1);
        dueArgument("name -1", () -> desk.parts(-1));
        dueArgument("name 8", () -> desk.parts(8));
        dueElement("no expression", () -> desk.parts(7));
    }

    private static void part() {
        about("8");
        GradientDesk desk = new GradientDesk();
        define(desk, "b*-3/5+c^4", 0);
        due("variable", look(desk, 0), "1 1 -1 1 1 0");
        due("number", look(desk, 1), "0 -1 -1 0 2 3");
        due("-1", look(desk, 2), "0 -1 -1 0 1 0");
        due("-3/5", look(desk, 3), "0 -1 -1 0 2 3");
        due("product", look(desk, 4), "3 0 3 1 11 3");
        due("variable", look(desk, 5), "1 2 -1 1 1 0");
        due("power", look(desk, 6), "4 5 4 4 36 0");
        due("sum", look(desk, 7), "2 4 6 4 40 3");
        dueIndex("-1", () -> desk.part(-1, 0));
        dueIndex("8", () -> desk.part(8, 0));
        dueArgument("what -1", () -> desk.part(7, -1));
        dueArgument("what 6", () -> desk.part(7, 6));
        dueIndex("index before argument", () -> desk.part(8, 6));
    }

    private static void number() {
        about("9");
        GradientDesk desk = new GradientDesk();
        define(desk, "a-7/14", 0);
        due("no number", desk.number(0, 3), false);
        due("a number", desk.number(1, 3), true);
        due("1/2", result(desk, 3), "1/2");
        due("a number", desk.number(3, 3), true);
        due("-1/2", result(desk, 3), "-1/2");
        due("no number makes 0", desk.number(4, 3), false);
        due("0", result(desk, 3), "0/1");
        dueIndex("part -1", () -> desk.number(-1, 0));
        dueIndex("part 5", () -> desk.number(5, 0));
        dueIndex("result -1", () -> desk.number(0, -1));
        dueIndex("result 8", () -> desk.number(0, 8));
        define(desk, "9999^9*9998^9", 1);
        desk.number(desk.made() - 1, 7);
        due("long", result(desk, 7), BigInteger.valueOf(9999 * 9998).pow(9) + "/1");
    }

    private static void clear() {
        about("10");
        GradientDesk desk = new GradientDesk();
        define(desk, "a+1/2", 0);
        desk.set(0, 1, 3);
        desk.gradient(0);
        desk.write(0);
        desk.type('b', 1);
        desk.clear();
        due("made", desk.made(), 0);
        for (int i = 0; i < 8; i++) {
            int name = i;
            dueElement("no name", () -> desk.parts(name));
        }
        dueIndex("no part", () -> desk.part(0, 0));
        due("RESULTS stay", result(desk, 0), "5/6");
        due("what was written stays", (char) desk.written(1), 'a');
        due("the text stays", desk.type(packed("*a"), 2), 3);
        due("parts from 0 on", desk.define(0), 2);
        desk.set(1, 1, 1);
        desk.gradient(0);
        due("the POINT stays", result(desk, 0), "1/3");
    }

    private static void set() {
        about("11");
        GradientDesk desk = new GradientDesk();
        define(desk, "a+100*b+c", 0);
        desk.gradient(0);
        due("0 at first", result(desk, 0), "0/1");
        desk.set(0, 2, 4);
        desk.set(1, -9999, 9999);
        desk.set(2, 9999, 1);
        desk.gradient(0);
        due("the value", result(desk, 0), "19799/2");
        dueArgument("variable -1", () -> desk.set(-1, 0, 1));
        dueArgument("variable 3", () -> desk.set(3, 0, 1));
        dueArgument("p 10000", () -> desk.set(0, 10000, 1));
        dueArgument("p -10000", () -> desk.set(0, -10000, 1));
        dueArgument("q 0", () -> desk.set(0, 1, 0));
        dueArgument("q -1", () -> desk.set(0, 1, -1));
        dueArgument("q 10000", () -> desk.set(0, 1, 10000));
        desk.gradient(0);
        due("nothing changed", result(desk, 0), "19799/2");
        desk.set(2, 0, 9999);
        desk.set(0, -9999, 9999);
        desk.gradient(0);
        due("the value", result(desk, 0), "-101/1");
    }

    private static void gradient() {
        about("12");
        GradientDesk desk = new GradientDesk();
        define(desk, "a^2*b+3/4*c-(a-b)^3", 0);
        desk.set(0, 1, 2);
        desk.set(1, -3, 7);
        desk.set(2, 5, 1);
        desk.gradient(0);
        due("value", result(desk, 0), "7799/2744");
        due("by a", result(desk, 1), "-591/196");
        due("by b", result(desk, 2), "139/49");
        due("by c", result(desk, 3), "3/4");
        due("no other", result(desk, 4) + result(desk, 5), "0/10/1");
        define(desk, "5/7", 1);
        desk.gradient(1);
        due("of a number", result(desk, 0) + " " + result(desk, 1) + " " + result(desk, 2) + " " + result(desk, 3), "5/7 0/1 0/1 0/1");
        define(desk, "(a-1/2)^2*b", 1);
        desk.gradient(1);
        due("at a zero", result(desk, 0) + " " + result(desk, 1) + " " + result(desk, 2), "0/1 0/1 0/1");
        define(desk, "(a-1/2)*c", 1);
        desk.gradient(1);
        due("at a simple zero", result(desk, 0) + " " + result(desk, 1) + " " + result(desk, 3), "0/1 5/1 0/1");
        dueArgument("name -1", () -> desk.gradient(-1));
        dueArgument("name 8", () -> desk.gradient(8));
        dueElement("no expression", () -> desk.gradient(7));
        due("nothing changed", result(desk, 1), "5/1");
        longGradient();
    }

    /** The longest numbers: DEGREE 8, sizes near 400, and a POINT with three different great denominators. */
    private static void longGradient() {
        GradientDesk desk = new GradientDesk();
        desk.set(0, 9973, 9967);
        desk.set(1, -9949, 9941);
        desk.set(2, 9931, 9929);
        define(desk, "1/9999*a^2*b+1/9997*b^2*c+1/9991*c^2*a", 0);
        define(desk, "A*A", 1);
        due("it fits", define(desk, "B*(a+c)^2", 2) >= 0, true);
        desk.gradient(2);
        BigInteger[][] v = new BigInteger[3][];
        v[0] = ratio(9973, 9967);
        v[1] = ratio(-9949, 9941);
        v[2] = ratio(9931, 9929);
        BigInteger[] inner = add(add(mul(ratio(1, 9999), mul(mul(v[0], v[0]), v[1])), mul(ratio(1, 9997), mul(mul(v[1], v[1]), v[2]))),
                mul(ratio(1, 9991), mul(mul(v[2], v[2]), v[0])));
        BigInteger[] outer = add(v[0], v[2]);
        due("value", result(desk, 0), show(mul(mul(inner, inner), mul(outer, outer))));
        BigInteger[] innerByB = add(mul(ratio(1, 9999), mul(v[0], v[0])), mul(ratio(2, 9997), mul(v[1], v[2])));
        due("by b", result(desk, 2), show(mul(mul(mul(ratio(2, 1), inner), innerByB), mul(outer, outer))));
        due("long enough", desk.bits(0, 1) > 280, true);
        longest(true);
        longest(false);
    }

    /** Eighth powers of all three variables, with a factor (or divisor) as great as the sizes leave room for. */
    private static void longest(boolean above) {
        GradientDesk desk = new GradientDesk();
        desk.set(0, 9973, 9967);
        desk.set(1, -9949, 9941);
        desk.set(2, 9931, 9929);
        String one = above ? "9999" : "1/9999";
        String more = above ? "*3" : "*1/8";
        define(desk, one + "^9*" + one + "^9*" + one + "^5" + more + "^3" + more, 0);
        due("it fits", define(desk, "A*(a^8+b^8+c^8)", 1) >= 0, true);
        desk.gradient(1);
        desk.along(1, 999, -999, 999);
        desk.number(define(desk, "A", 0), 7);
        BigInteger[] factor = {side(desk, 7, 0), side(desk, 7, 1)};
        BigInteger[][] v = {ratio(9973, 9967), ratio(-9949, 9941), ratio(9931, 9929)};
        BigInteger[] sum = ratio(0, 1);
        BigInteger[] slope = ratio(0, 1);
        for (int i = 0; i < 3; i++) {
            BigInteger[] seventh = {v[i][0].pow(7), v[i][1].pow(7)};
            BigInteger[] by = mul(factor, mul(ratio(8, 1), seventh));
            due("by a variable", result(desk, 1 + i), show(by));
            sum = add(sum, mul(seventh, v[i]));
            slope = add(slope, mul(by, ratio(i == 1 ? -999 : 999, 1)));
        }
        due("value", result(desk, 0), show(mul(factor, sum)));
        due("value along", result(desk, 4), show(mul(factor, sum)));
        due("slope along", result(desk, 5), show(slope));
        due("long enough", desk.bits(0, above ? 0 : 1) > 625, true);
    }

    private static void along() {
        about("13");
        GradientDesk desk = new GradientDesk();
        define(desk, "a^2*b+3/4*c-(a-b)^3", 0);
        desk.set(0, 1, 2);
        desk.set(1, -3, 7);
        desk.set(2, 5, 1);
        desk.along(0, 2, -3, 4);
        due("value", result(desk, 4), "7799/2744");
        due("slope", result(desk, 5), "-1131/98");
        due("no other", result(desk, 0) + result(desk, 1), "0/10/1");
        desk.along(0, 0, 0, 0);
        due("nowhere", result(desk, 5), "0/1");
        desk.along(0, 0, 0, -999);
        due("by c", result(desk, 5), "-2997/4");
        desk.along(0, 999, 999, 999);
        due("all", result(desk, 5), show(mul(ratio(999, 1), add(add(ratio(-591, 196), ratio(139, 49)), ratio(3, 4)))));
        dueArgument("name -1", () -> desk.along(-1, 0, 0, 0));
        dueArgument("name 8", () -> desk.along(8, 0, 0, 0));
        dueArgument("x 1000", () -> desk.along(0, 1000, 0, 0));
        dueArgument("y -1000", () -> desk.along(0, 0, -1000, 0));
        dueArgument("z 1000", () -> desk.along(0, 0, 0, 1000));
        dueArgument("argument before element", () -> desk.along(7, 0, 0, 1000));
        dueElement("no expression", () -> desk.along(7, 0, 0, 0));
    }

    private static void reckon() {
        about("14");
        GradientDesk desk = new GradientDesk();
        putResult(desk, "1/6", 1);
        putResult(desk, "-3/10", 2);
        due("sum", desk.reckon(0, 3, 1, 2), true);
        due("sum", result(desk, 3), "-2/15");
        due("difference", desk.reckon(1, 4, 1, 2), true);
        due("difference", result(desk, 4), "7/15");
        due("product", desk.reckon(2, 5, 1, 2), true);
        due("product", result(desk, 5), "-1/20");
        due("into itself", desk.reckon(1, 1, 1, 1), true);
        due("0", result(desk, 1), "0/1");
        due("0 times", desk.reckon(2, 2, 2, 1), true);
        due("0", result(desk, 2), "0/1");
        due("0 less", desk.reckon(1, 6, 1, 5), true);
        due("1/20", result(desk, 6), "1/20");
        due("squared in place", desk.reckon(2, 6, 6, 6), true);
        due("1/400", result(desk, 6), "1/400");
        dueIndex("r -1", () -> desk.reckon(0, -1, 0, 0));
        dueIndex("r 8", () -> desk.reckon(0, 8, 0, 0));
        dueIndex("i 8", () -> desk.reckon(0, 0, 8, 0));
        dueIndex("j -1", () -> desk.reckon(0, 0, 0, -1));
        dueArgument("what 3", () -> desk.reckon(3, 0, 0, 0));
        dueArgument("what -1", () -> desk.reckon(-1, 0, 0, 0));
        dueIndex("index before argument", () -> desk.reckon(3, 0, 0, 8));
    }

    /** RESULTS i and j may have 1,000 bits and no more; what comes of them may have twice as many. */
    private static void reckonLong() {
        about("14 (long numbers)");
        GradientDesk desk = new GradientDesk();
        putResult(desk, "2^9*2", 0);
        putResult(desk, "1/2^9*1/2", 1);
        for (int i = 0; i < 2; i++) {
            desk.reckon(2, 2, 0, 0);
            desk.reckon(2, 3, 2, 2);
            desk.reckon(2, 3, 3, 0);
            desk.reckon(0, 0, 3, 6);
            desk.reckon(2, 4, 1, 1);
            desk.reckon(2, 5, 4, 4);
            desk.reckon(2, 1, 5, 1);
        }
        for (int r = 0; r < 2; r++) {
            desk.reckon(2, 2, r, r);
            desk.reckon(2, 2, 2, r);
            due("four times as long", desk.reckon(2, r, 2, r), true);
        }
        due("2^1000 has 1,001 bits", desk.bits(0, 0), 1001);
        due("2^-1000 likewise", desk.bits(1, 1), 1001);
        due("they are compared", desk.compare(0, 1) + " " + desk.compare(1, 0), "1 -1");
        due("too long", desk.reckon(0, 7, 0, 6), false);
        due("too long", desk.reckon(2, 7, 6, 0), false);
        due("q too long", desk.reckon(1, 7, 6, 1), false);
        due("nothing changed", desk.sign(7), 0);
        GradientDesk edge = new GradientDesk();
        putResult(edge, "2^9", 0);
        putResult(edge, "1", 1);
        for (int i = 0; i < 111; i++) {
            edge.reckon(2, 1, 1, 0);
        }
        due("2^999 has 1,000 bits", edge.bits(1, 0), 1000);
        putResult(edge, "1", 3);
        edge.reckon(1, 2, 1, 3);
        due("2^999 - 1 has 999", edge.bits(2, 0), 999);
        due("a square", edge.reckon(2, 4, 1, 1), true);
        due("1,999 bits", edge.bits(4, 0), 1999);
        due("its top word", edge.word(4, 0, 62), 1 << 14);
        due("and none above", edge.word(4, 0, 63), 0);
        due("no more with it", edge.reckon(1, 4, 4, 4), false);
        due("it stays", edge.bits(4, 0), 1999);
        edge.reckon(0, 5, 1, 1);
        due("1,001 bits", edge.bits(5, 0), 1001);
        due("one too many", edge.reckon(0, 6, 5, 3), false);
        due("one too many", edge.reckon(0, 6, 3, 5), false);
        due("nothing changed", edge.bits(6, 0), 0);
        putResult(edge, "1/2^9", 0);
        putResult(edge, "1", 6);
        for (int i = 0; i < 111; i++) {
            edge.reckon(2, 6, 6, 0);
        }
        due("2^-999 has 1,000 bits of q", edge.bits(6, 1), 1000);
        due("it is reckoned with", edge.reckon(2, 6, 6, 1), true);
        due("1", result(edge, 6), "1/1");
        due("compare", edge.compare(4, 5) + " " + edge.compare(5, 4) + " " + edge.compare(4, 4), "1 -1 0");
    }

    private static void compare() {
        about("15");
        GradientDesk desk = new GradientDesk();
        String[] rising = {"-9999/2", "-1/2", "-1/3", "0", "9998/9999", "1", "9999/9998", "2^9"};
        for (int i = 0; i < 8; i++) {
            putResult(desk, rising[i], i);
        }
        for (int i = 0; i < 8; i++) {
            for (int j = 0; j < 8; j++) {
                due("compare(" + i + ", " + j + ")", desk.compare(i, j), Integer.compare(i, j));
            }
        }
        dueIndex("i -1", () -> desk.compare(-1, 0));
        dueIndex("i 8", () -> desk.compare(8, 0));
        dueIndex("j -1", () -> desk.compare(0, -1));
        dueIndex("j 8", () -> desk.compare(0, 8));
    }

    private static void sign() {
        about("16");
        GradientDesk desk = new GradientDesk();
        putResult(desk, "-1/9", 1);
        putResult(desk, "1/9", 2);
        due("0", desk.sign(0), 0);
        due("below", desk.sign(1), -1);
        due("above", desk.sign(2), 1);
        dueIndex("-1", () -> desk.sign(-1));
        dueIndex("8", () -> desk.sign(8));
    }

    private static void bits() {
        about("17");
        GradientDesk desk = new GradientDesk();
        putResult(desk, "-8/7", 1);
        due("p", desk.bits(1, 0), 4);
        due("q", desk.bits(1, 1), 3);
        due("0", desk.bits(0, 0), 0);
        due("1", desk.bits(0, 1), 1);
        putResult(desk, "(2^8)^4", 1);
        due("2^32", desk.bits(1, 0), 33);
        putResult(desk, "(2^8)^4-1", 1);
        due("2^32 - 1", desk.bits(1, 0), 32);
        dueIndex("-1", () -> desk.bits(-1, 0));
        dueIndex("8", () -> desk.bits(8, 0));
        dueArgument("which 2", () -> desk.bits(0, 2));
        dueArgument("which -1", () -> desk.bits(0, -1));
        dueIndex("index before argument", () -> desk.bits(8, 2));
    }

    private static void word() {
        about("18");
        GradientDesk desk = new GradientDesk();
        putResult(desk, "-(2^8)^4+1", 1);
        due("a full word", desk.word(1, 0, 0), -1);
        due("none above", desk.word(1, 0, 1), 0);
        due("q", desk.word(1, 1, 0), 1);
        putResult(desk, "-(2^8)^4", 1);
        due("the low word", desk.word(1, 0, 0), 0);
        due("the next", desk.word(1, 0, 1), 1);
        due("the last there is", desk.word(1, 0, 63), 0);
        due("of 0", desk.word(0, 0, 0), 0);
        dueIndex("word -1", () -> desk.word(1, 0, -1));
        dueIndex("word 64", () -> desk.word(1, 0, 64));
        dueIndex("result 8", () -> desk.word(8, 0, 0));
        dueIndex("result -1", () -> desk.word(-1, 0, 0));
        dueArgument("which 2", () -> desk.word(0, 2, 0));
        dueArgument("which -1", () -> desk.word(0, -1, 0));
        dueIndex("index before argument", () -> desk.word(0, 2, 64));
    }

    private static void write() {
        about("19");
        String[][] pairs = {{"a", "a"}, {"b+c", "(b+c)"}, {"b*c", "(b*c)"}, {"a^2", "a^2"}, {"(a^2)^3", "a^2^3"},
            {"(a+b)^4", "(a+b)^4"}, {"-5", "-5"}, {"-5/10", "-1/2"}, {"a-b", "(a+(-1*b))"},
            {"a*-3/7", "(a*-3/7)"}, {"0", "0"}, {"10*100", "1000"}, {"1000*1000*1000", "1000000000"},
            {"1000*1000*1000*1000*1000*1000", "1000000000000000000"}, {"9999^9", BigInteger.valueOf(9999).pow(9).toString()},
            {"1/9999^9", "1/" + BigInteger.valueOf(9999).pow(9)}, {"a+b+c", "((a+b)+c)"}, {"a+(b+c)", "(a+(b+c))"},
            {"-9999/9998*a^2", "(-9999/9998*a^2)"}};
        for (String[] pair : pairs) {
            GradientDesk desk = new GradientDesk();
            define(desk, pair[0], 0);
            due("write of " + pair[0], written(desk, 0), pair[1]);
        }
        GradientDesk desk = new GradientDesk();
        define(desk, "a", 0);
        for (int i = 0; i < 5; i++) {
            define(desk, "A+A", 0);
        }
        due("125 characters", desk.write(0), 125);
        due("more than 250", define(desk, "A+A", 1) >= 0, true);
        due("LARGE", desk.write(1), LARGE);
        due("the last one stays", (char) desk.written(124) + "" + (char) desk.written(5), ")a");
        dueIndex("its end too", () -> desk.written(125));
        define(desk, "A+(1+1", 2);
        define(desk, "a+a+a+a+a+a+a+a+a+a+a+a+a+a+a+a+a+a+a+a+a+a+a+a+a+a+a+a+a+a", 2);
        due("30 of a", desk.write(2), 29 * 4 + 1);
        define(desk, "A+(C+9", 2);
        define(desk, "A+C", 3);
        due("245", desk.write(3), 125 + 117 + 3);
        define(desk, "D+12", 4);
        due("250", desk.write(4), 250);
        due("its last", (char) desk.written(249), ')');
        define(desk, "D+123", 5);
        due("251", desk.write(5), LARGE);
        due("it stays", (char) desk.written(249), ')');
        dueArgument("name -1", () -> desk.write(-1));
        dueArgument("name 8", () -> desk.write(8));
        dueElement("no expression", () -> desk.write(7));
    }

    private static void written() {
        about("20");
        GradientDesk desk = new GradientDesk();
        dueIndex("nothing yet", () -> desk.written(0));
        define(desk, "a-1/2", 0);
        desk.write(0);
        due("written", written(desk, 0), "(a+-1/2)");
        define(desk, "b", 0);
        due("the last one", (char) desk.written(7), ')');
        desk.write(0);
        due("a shorter one", (char) desk.written(0), 'b');
        dueIndex("behind it", () -> desk.written(1));
        dueIndex("-1", () -> desk.written(-1));
    }
}
