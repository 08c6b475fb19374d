/**
 * The edges of the text, sentence by sentence: what is the last that is still taken, what the first that
 * no longer is, and that a refused call leaves the text as it was. (Terms; promises 2, 3 and 4.)
 */
public final class GradientDeskTextEdges extends Bench {
    private static final String DIGITS = "0123456789";
    private static final String FIRST = DIGITS + "abcABCDEFGH(-";
    private static final String NEXT = "+-*";

    public static void main(String[] args) {
        howManyCharacters();
        whichCharacters();
        bytesBehindAreFree();
        roomForCharacters();
        refusedCharactersLeaveTheText();
        wrongCharactersComeBeforeNoRoom();
        theWholeTextIsRead();
        whatCanStandWhere();
        anyNumberOfTimes();
        digitsOfNumbers();
        exponents();
        lettersOfVariablesAndNames();
        theEmptyText();
        namesOfDefine();
        unknownNames();
        answersInTheirOrder();
        placeBeforeAnyDefine();
        placeAfterEachAnswer();
        placeAfterOtherCalls();
        end("the edges of the text hold");
    }

    // ---- promise 2

    private static void howManyCharacters() {
        about("2: n is not 1 .. 8");
        for (int n : new int[] {1, 8}) {
            due("type of " + n, new GradientDesk().type(packed("aaaaaaaa"), n), n);
        }
        for (int n : new int[] {0, 9, -1, 64, LEAST, MOST}) {
            dueArgument("type of " + n, () -> new GradientDesk().type(packed("aaaaaaaa"), n));
        }
    }

    private static void whichCharacters() {
        about("2: a character is not 32 .. 126");
        for (int at = 0; at < 8; at++) {
            for (int letter = 0; letter < 256; letter++) {
                long w = packed("aaaaaaaa") & ~(255L << (8 * at)) | (long) letter << (8 * at);
                GradientDesk desk = new GradientDesk();
                boolean good = letter >= 32 && letter <= 126;
                due("character " + letter + " at " + at, thrownBy(() -> desk.type(w, 8)),
                        good ? "nothing" : "IllegalArgumentException");
                due("the text then", desk.type('a', 1), good ? 9 : 1);
            }
        }
    }

    private static void bytesBehindAreFree() {
        about("2: n characters more, the lowest byte of w first");
        for (int n = 1; n < 8; n++) {
            long behind = -1L << (8 * n);
            due("bytes of 255 behind " + n, new GradientDesk().type(packed("aaaaaaaa".substring(0, n)) | behind, n), n);
            due("bytes of 0 behind " + n, new GradientDesk().type(packed("aaaaaaaa".substring(0, n)), n), n);
        }
        GradientDesk desk = new GradientDesk();
        desk.type(packed("2*"), 2);
        desk.type(packed("b^3-c"), 5);
        desk.define(0);
        due("written", written(desk, 0), "((2*b^3)+(-1*c))");
    }

    private static void roomForCharacters() {
        about("2: the text is a row of at most 64 characters");
        for (int have = 56; have <= 64; have++) {
            for (int n = 1; n <= 8; n++) {
                GradientDesk desk = new GradientDesk();
                typeAll(desk, "a".repeat(have));
                int more = n;
                if (have + n <= 64) {
                    due(n + " behind " + have, desk.type(packed("aaaaaaaa"), more), have + n);
                } else {
                    dueState(n + " behind " + have, () -> desk.type(packed("aaaaaaaa"), more));
                    dueState(n + " behind " + have + " again", () -> desk.type(packed("aaaaaaaa"), more));
                }
            }
        }
    }

    private static void refusedCharactersLeaveTheText() {
        about("2: a call that throws changes nothing");
        GradientDesk desk = new GradientDesk();
        String good = "a" + "+b".repeat(30);
        typeAll(desk, good);
        dueState("four too many", () -> desk.type(packed("+c+c"), 4));
        dueArgument("a wrong one at the end", () -> desk.type(packed("+") | 31 << 8, 2));
        dueArgument("none", () -> desk.type(packed("+c"), 0));
        dueArgument("nine", () -> desk.type(packed("+c"), 9));
        due("two more", desk.type(packed("*c"), 2), 63);
        dueState("two at 63", () -> desk.type(packed("*c"), 2));
        due("the expression", desk.define(0) >= 0, true);
        due("its parts: a, b, c, b*c and 30 sums", desk.parts(0), 34);
    }

    private static void wrongCharactersComeBeforeNoRoom() {
        about("2: of several exceptions the one named first is thrown");
        GradientDesk desk = new GradientDesk();
        typeAll(desk, "a".repeat(64));
        dueArgument("0 and no room", () -> desk.type('a', 0));
        dueArgument("9 and no room", () -> desk.type(packed("aaaaaaaa"), 9));
        dueArgument("character 127 and no room", () -> desk.type(127, 1));
        dueArgument("the eighth is 128, and no room", () -> desk.type(packed("aaaaaaa") | 128L << 56, 8));
        dueState("no room", () -> desk.type('a', 1));
    }

    private static void theWholeTextIsRead() {
        about("3: a text of 64 characters");
        GradientDesk desk = new GradientDesk();
        due("64 good ones", define(desk, "1" + "+1".repeat(31) + "0", 0) >= 0, true);
        due("the last one is read", written(desk, 0), "41");
        due("the last one is wrong", define(desk, "1" + "+1".repeat(31) + ")", 0), SYNTAX);
        due("its place", desk.place(), 63);
        due("more must come", define(desk, "1" + "+1".repeat(31) + "*", 0), SYNTAX);
        due("its place", desk.place(), 64);
        due("the text is empty then", desk.type('a', 1), 1);
    }

    // ---- promise 4: each state of the grammar, with each character that can be typed

    private static void whatCanStandWhere() {
        about("4: the place of the first character that can't be there");
        can(FIRST, "", "-", "--", "a+", "a-", "a*", "a--", "1+", "1/2*", "a^2-", "(", "((", "(a+", "(-", "a*(", "(a)*");
        can(DIGITS + "/^" + NEXT, "1", "12", "123", "0", "000", "-1", "a+1", "2*10");
        can("/^" + NEXT, "1234", "0000", "9999");
        can(DIGITS, "1/", "1234/", "1/0", "1/00", "a^", "1/2^", "(a)^", "A^");
        can("123456789", "1/000", "0/000");
        can(DIGITS + "^" + NEXT, "1/1", "1/01", "1/001", "1/10", "1/100", "0/123");
        can("^" + NEXT, "1/1234", "1/0001", "1/1000", "a", "c", "A", "H", "(a)", "((1))", "-b");
        can(NEXT, "a^2", "1^0", "1/2^9", "(a)^3", "A^1");
        can("^)" + NEXT, "(a", "((a)", "(A", "(1/1234", "a*(b");
        can(DIGITS + "/^)" + NEXT, "(1", "(123", "((a)+1");
        can("/^)" + NEXT, "(1234");
        can(DIGITS + "^)" + NEXT, "(1/1", "(1/001");
        can(")" + NEXT, "(a^2", "((a)^2", "(1/3^2");
    }

    private static void can(String good, String... begins) {
        for (String begin : begins) {
            GradientDesk desk = new GradientDesk();
            for (char letter = 32; letter <= 126; letter++) {
                int answer = define(desk, begin + letter, 0);
                boolean fits = good.indexOf(letter) >= 0;
                due("whether '" + letter + "' can't be behind '" + begin + "'", desk.place() == begin.length(), !fits);
                if (!fits) {
                    due("define of " + begin + letter, answer, SYNTAX);
                }
            }
        }
    }

    private static void anyNumberOfTimes() {
        about("3: any number of times");
        GradientDesk desk = new GradientDesk();
        due("one term", define(desk, "7", 0), 0);
        due("32 terms", define(desk, "1" + "+1".repeat(31), 0) >= 0, true);
        due("their sum", written(desk, 0), "32");
        due("32 terms taken", define(desk, "1" + "-1".repeat(31), 0) >= 0, true);
        due("their sum", written(desk, 0), "-30");
        due("32 factors", define(desk, "2" + "*2".repeat(31), 0) >= 0, true);
        due("their product", written(desk, 0), "4294967296");
        due("63 minus signs", define(desk, "-".repeat(63) + "5", 0) >= 0, true);
        due("below 0", written(desk, 0), "-5");
        due("62 minus signs", define(desk, "-".repeat(62) + "5", 0) >= 0, true);
        due("above 0", written(desk, 0), "5");
        due("31 deep", define(desk, "(".repeat(31) + "5" + ")".repeat(31), 0) >= 0, true);
        due("the same", written(desk, 0), "5");
        due("one ) too many", define(desk, "(".repeat(31) + "5" + ")".repeat(32), 0), SYNTAX);
        due("its place", desk.place(), 63);
        due("one ( too many", define(desk, "(".repeat(32) + "5" + ")".repeat(31), 0), SYNTAX);
        due("its place", desk.place(), 64);
    }

    private static void digitsOfNumbers() {
        about("3: number = one to four digits, or one to four digits / one to four digits that are not all 0");
        String[][] good = {{"0", "0"}, {"9", "9"}, {"0000", "0"}, {"0009", "9"}, {"9999", "9999"}, {"1/1", "1"},
            {"1/9", "1/9"}, {"1/09", "1/9"}, {"1/009", "1/9"}, {"1/0009", "1/9"}, {"1/9000", "1/9000"}, {"9999/9999", "1"},
            {"1/9999", "1/9999"}, {"9999/0001", "9999"}, {"0/5", "0"}, {"0000/0001", "0"}, {"6/4", "3/2"}};
        for (String[] pair : good) {
            GradientDesk desk = new GradientDesk();
            due("define of " + pair[0], define(desk, pair[0], 0), 0);
            due("written", written(desk, 0), pair[1]);
        }
        wrongAt("00000", 4);
        wrongAt("12345", 4);
        wrongAt("1/", 2);
        wrongAt("1/0", 3);
        wrongAt("1/00", 4);
        wrongAt("1/000", 5);
        wrongAt("1/0000", 5);
        wrongAt("1/00000", 5);
        wrongAt("1/00009", 5);
        wrongAt("1/00090", 6);
        wrongAt("1/12345", 6);
        wrongAt("0/0", 3);
        wrongAt("1/0+1", 3);
        wrongAt("1/000*1", 5);
        wrongAt("(1/0)", 4);
        wrongAt("1/2/3", 3);
    }

    private static void wrongAt(String text, int place) {
        GradientDesk desk = new GradientDesk();
        due("define of " + text, define(desk, text, 0), SYNTAX);
        due("place of " + text, desk.place(), place);
        due("made by " + text, desk.made(), 0);
        dueElement("the name after " + text, () -> desk.parts(0));
    }

    private static void exponents() {
        about("3: power = atom, or atom ^ digit");
        for (int n = 0; n <= 9; n++) {
            GradientDesk desk = new GradientDesk();
            due("1^" + n, define(desk, "1^" + n, 0), 0);
            due("2^" + n, define(desk, "2^" + n, 1) >= 0, true);
            due("2^" + n + " written", written(desk, 1), "" + (1 << n));
        }
        wrongAt("2^", 2);
        wrongAt("2^10", 3);
        wrongAt("2^2^2", 3);
        wrongAt("2^-1", 2);
        wrongAt("2^a", 2);
        wrongAt("2^(2)", 2);
        GradientDesk desk = new GradientDesk();
        define(desk, "(2^2)^3", 0);
        due("a power of a power needs its brackets", written(desk, 0), "64");
    }

    private static void lettersOfVariablesAndNames() {
        about("3: atom = number, variable a, b, c, name A .. H, or (sum)");
        GradientDesk desk = new GradientDesk();
        due("a", define(desk, "a", 0), 0);
        due("c", define(desk, "c", 7), 1);
        due("A", define(desk, "A", 1), 0);
        due("H", define(desk, "H", 2), 1);
        for (String letter : new String[] {"`", "d", "@", "I", "Z", "z", "/", ":"}) {
            wrongAt(letter, 0);
        }
        due("in brackets", define(desk, "(a)", 3), 0);
        wrongAt("()", 1);
    }

    // ---- promise 3

    private static void theEmptyText() {
        about("3: the empty text");
        GradientDesk desk = new GradientDesk();
        due("at first", desk.define(0), SYNTAX);
        due("its place", desk.place(), 0);
        due("a", define(desk, "a", 0), 0);
        due("after a good one", desk.define(0), SYNTAX);
        due("the name stays", written(desk, 0), "a");
        define(desk, "a+", 0);
        due("after a wrong one", desk.define(0), SYNTAX);
        due("its place", desk.place(), 0);
    }

    private static void namesOfDefine() {
        about("3: name is not 0 .. 7");
        for (int name : new int[] {0, 7}) {
            GradientDesk desk = new GradientDesk();
            due("define(" + name + ")", define(desk, "a", name), 0);
            due("it has the name", desk.parts(name), 1);
        }
        GradientDesk desk = new GradientDesk();
        typeAll(desk, "a*");
        for (int name : new int[] {-1, 8, LEAST, MOST}) {
            dueArgument("define(" + name + ")", () -> desk.define(name));
        }
        due("the text stays", desk.type('b', 1), 3);
        due("and is read", desk.define(0), 2);
    }

    private static void unknownNames() {
        about("3: UNKNOWN");
        GradientDesk desk = new GradientDesk();
        for (char letter = 'A'; letter <= 'H'; letter++) {
            due("a name that is not there: " + letter, define(desk, "" + letter, letter - 'A'), UNKNOWN);
        }
        due("0 * a name", define(desk, "0*B", 0), UNKNOWN);
        due("a name ^ 0", define(desk, "B^0", 0), UNKNOWN);
        due("nothing made", desk.made(), 0);
        define(desk, "a", 1);
        due("the name is there", define(desk, "B", 0), 0);
        due("a derivative has a name", desk.derive(1, 0, 2), 1);
        due("it is known", define(desk, "C", 3), 1);
        desk.clear();
        due("after clear", define(desk, "B", 0), UNKNOWN);
        define(desk, "a", 0);
        due("all but one are known", define(desk, "A*A+A-B", 0), UNKNOWN);
        due("taken back", desk.made(), 1);
    }

    private static void answersInTheirOrder() {
        about("3: SYNTAX, UNKNOWN (if it is in the grammar), LARGE, FULL");
        GradientDesk desk = new GradientDesk();
        due("SYNTAX, not UNKNOWN", define(desk, "B+B)", 0), SYNTAX);
        due("SYNTAX, not LARGE", define(desk, "a^9+", 0), SYNTAX);
        due("UNKNOWN, not LARGE", define(desk, "a^9+B", 0), UNKNOWN);
        fillTo(desk, 200);
        due("SYNTAX, not FULL", define(desk, "b+", 0), SYNTAX);
        due("UNKNOWN, not FULL", define(desk, "b+B", 0), UNKNOWN);
        due("LARGE, not FULL", define(desk, "a^9", 0), LARGE);
        due("FULL", define(desk, "b", 0), FULL);
        due("made", desk.made(), 200);
    }

    // ---- promise 4

    private static void placeBeforeAnyDefine() {
        about("4: -1 else");
        GradientDesk desk = new GradientDesk();
        due("a new object", desk.place(), -1);
        typeAll(desk, "a++");
        due("a wrong text that is only typed", desk.place(), -1);
        dueArgument("define(8)", () -> desk.define(8));
        due("after a define that threw", desk.place(), -1);
    }

    private static void placeAfterEachAnswer() {
        about("4: if the latest define() that threw nothing answered SYNTAX");
        GradientDesk desk = new GradientDesk();
        define(desk, "a+)", 0);
        due("SYNTAX", desk.place(), 2);
        define(desk, "(a", 0);
        due("SYNTAX again, more must come", desk.place(), 2);
        define(desk, "a", 0);
        due("a part", desk.place(), -1);
        define(desk, "(((", 0);
        due("SYNTAX", desk.place(), 3);
        define(desk, "B", 0);
        due("UNKNOWN", desk.place(), -1);
        define(desk, "*", 0);
        due("SYNTAX", desk.place(), 0);
        define(desk, "a^9", 0);
        due("LARGE", desk.place(), -1);
        fillTo(desk, 200);
        define(desk, "1a", 0);
        due("SYNTAX", desk.place(), 1);
        due("FULL", define(desk, "b", 0), FULL);
        due("after FULL", desk.place(), -1);
    }

    private static void placeAfterOtherCalls() {
        about("4: other calls between change nothing of it");
        GradientDesk desk = new GradientDesk();
        define(desk, "a^2", 1);
        define(desk, "a+b+", 0);
        desk.place();
        desk.type('a', 1);
        dueArgument("type", () -> desk.type('a', 0));
        dueArgument("define", () -> desk.define(-1));
        desk.derive(1, 0, 2);
        dueElement("derive", () -> desk.derive(7, 0, 2));
        desk.made();
        desk.parts(1);
        desk.part(0, 0);
        desk.number(0, 0);
        desk.set(0, 1, 1);
        desk.gradient(1);
        desk.along(1, 1, 1, 1);
        desk.reckon(0, 0, 0, 0);
        desk.compare(0, 1);
        desk.sign(0);
        desk.bits(0, 0);
        desk.word(0, 0, 0);
        desk.write(1);
        desk.written(0);
        desk.clear();
        due("place", desk.place(), 4);
        due("the text that was typed", desk.define(0), 0);
        due("place", desk.place(), -1);
    }
}
