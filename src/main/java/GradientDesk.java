import java.util.Arrays;
import java.util.NoSuchElementException;

/**
 * A desk for expressions in three variables that are worked out with exact fractions: their values,
 * all their derivatives at once or along a direction, and derivatives as expressions again, which
 * share what is the same.
 */
public final class GradientDesk {
    public static final int SYNTAX = -1, UNKNOWN = -2, LARGE = -3, FULL = -4;

    private static final int NAMES = 8;
    private static final int RESULTS = 8;
    private static final int VARIABLES = 3;
    private static final int NOTHING = -1;

    private static final int MOST_LETTERS = 64;
    private static final int MOST_PARTS = 200;
    private static final int MOST_DEGREE = 8;
    private static final int MOST_SIZE = 400;
    private static final int MOST_WRITTEN = 250;
    private static final int MOST_RECKONED_BITS = 1000;
    private static final int MOST_WORDS = 64;

    private static final int NUMBER = 0;
    private static final int VARIABLE = 1;
    private static final int SUM = 2;
    private static final int PRODUCT = 3;
    private static final int POWER = 4;

    /** Words for a NUMBER's p or q, and for a product of denominators: both keep to 400 bits. */
    private static final int NUMBER_ROOM = 13;
    /**
     * Words for an expression's numerator at the POINT: 400 bits of its size n, and 8 times the 40
     * bits that the POINT's common denominator and what stands over it have at most.
     */
    private static final int COURSE_ROOM = 26;
    /** Words for a RESULT: the sum of two RESULTS of 1,000 bits has at most 2,001. */
    private static final int RESULT_ROOM = 64;
    /** Words for the cross products of two RESULTS that are compared. */
    private static final int CROSS_ROOM = 128;

    private static final int WORD_BITS = 32;
    private static final long WORD_MASK = 0xffffffffL;
    private static final int BILLION = 1000000000;

    private final Arithmetic arithmetic;
    private final Text text;
    private final Shelf shelf;
    private final Reader reader;
    private final Course course;
    private final Script script;
    private final Fraction[] results;
    private final Fraction spare;
    private final int[] names;
    private final int[] pointTops;
    private final int[] pointBottoms;
    private int wrongPlace;

    public GradientDesk() {
        arithmetic = new Arithmetic();
        text = new Text();
        shelf = new Shelf(arithmetic);
        reader = new Reader(text, shelf);
        course = new Course(shelf);
        script = new Script(shelf);
        results = new Fraction[RESULTS];
        for (int r = 0; r < RESULTS; r++) {
            results[r] = new Fraction(RESULT_ROOM);
        }
        spare = new Fraction(RESULT_ROOM);
        names = new int[NAMES];
        Arrays.fill(names, NOTHING);
        pointTops = new int[VARIABLES];
        pointBottoms = new int[VARIABLES];
        Arrays.fill(pointBottoms, 1);
        wrongPlace = NOTHING;
    }

    public int type(long w, int n) throws IllegalArgumentException, IllegalStateException {
        if (n < 1 || n > 8) {
            throw new IllegalArgumentException("n is not 1 .. 8");
        }
        for (int i = 0; i < n; i++) {
            int letter = byteOf(w, i);
            if (letter < 32 || letter > 126) {
                throw new IllegalArgumentException("a character is not 32 .. 126");
            }
        }
        if (text.length + n > MOST_LETTERS) {
            throw new IllegalStateException("there is no room for the characters");
        }
        for (int i = 0; i < n; i++) {
            text.append((char) byteOf(w, i));
        }
        return text.length;
    }

    public int define(int name) throws IllegalArgumentException {
        checkName(name);
        wrongPlace = text.findWrongPlace();
        int before = shelf.count;
        int answer = SYNTAX;
        if (wrongPlace == NOTHING) {
            answer = reader.arrange(names) ? reader.make() : UNKNOWN;
        }
        text.length = 0;
        if (answer >= 0) {
            names[name] = answer;
        } else {
            shelf.count = before;
        }
        return answer;
    }

    public int place() {
        return wrongPlace;
    }

    public int derive(int of, int variable, int name) throws IllegalArgumentException, NoSuchElementException {
        checkName(of);
        checkVariable(variable);
        checkName(name);
        checkKnown(of);
        int before = shelf.count;
        int answer = shelf.derivative(names[of], variable);
        if (answer >= 0) {
            names[name] = answer;
        } else {
            shelf.count = before;
        }
        return answer;
    }

    public int made() {
        return shelf.count;
    }

    public int parts(int name) throws IllegalArgumentException, NoSuchElementException {
        checkName(name);
        checkKnown(name);
        return shelf.mark(names[name]);
    }

    public int part(int i, int what) throws IndexOutOfBoundsException, IllegalArgumentException {
        checkPart(i);
        Part looked = shelf.parts[i];
        switch (what) {
            case 0:
                return looked.sort;
            case 1:
                return looked.first;
            case 2:
                return looked.second;
            case 3:
                return looked.degree;
            case 4:
                return looked.sizeN;
            case 5:
                return looked.sizeD;
            default:
                throw new IllegalArgumentException("what is not 0 .. 5");
        }
    }

    public boolean number(int i, int r) throws IndexOutOfBoundsException {
        checkPart(i);
        checkResult(r);
        boolean isNumber = shelf.parts[i].sort == NUMBER;
        if (isNumber) {
            results[r].become(shelf.parts[i].number);
        } else {
            results[r].becomeRatio(0, 1);
        }
        return isNumber;
    }

    public void clear() {
        shelf.count = 0;
        Arrays.fill(names, NOTHING);
    }

    public void set(int variable, int p, int q) throws IllegalArgumentException {
        checkVariable(variable);
        if (p < -9999 || p > 9999 || q < 1 || q > 9999) {
            throw new IllegalArgumentException("p is not -9999 .. 9999, or q not 1 .. 9999");
        }
        pointTops[variable] = p;
        pointBottoms[variable] = q;
    }

    public void gradient(int name) throws IllegalArgumentException, NoSuchElementException {
        checkName(name);
        checkKnown(name);
        reckonValue(names[name], 0);
        reckonSlope(names[name], 1, 0, 0, 1);
        reckonSlope(names[name], 0, 1, 0, 2);
        reckonSlope(names[name], 0, 0, 1, 3);
    }

    public void along(int name, int x, int y, int z) throws IllegalArgumentException, NoSuchElementException {
        checkName(name);
        checkStep(x);
        checkStep(y);
        checkStep(z);
        checkKnown(name);
        reckonValue(names[name], 4);
        reckonSlope(names[name], x, y, z, 5);
    }

    public boolean reckon(int what, int r, int i, int j) throws IndexOutOfBoundsException, IllegalArgumentException {
        checkResult(r);
        checkResult(i);
        checkResult(j);
        if (what < 0 || what > 2) {
            throw new IllegalArgumentException("what is not 0 .. 2");
        }
        if (isLong(results[i]) || isLong(results[j])) {
            return false;
        }
        if (what == 2) {
            arithmetic.multiply(results[i], results[j], spare);
        } else {
            arithmetic.add(results[i], results[j], what == 1, spare);
        }
        arithmetic.reduce(spare);
        results[r].become(spare);
        return true;
    }

    public int compare(int i, int j) throws IndexOutOfBoundsException {
        checkResult(i);
        checkResult(j);
        return arithmetic.order(results[i], results[j]);
    }

    public int sign(int r) throws IndexOutOfBoundsException {
        checkResult(r);
        return results[r].top.signum();
    }

    public int bits(int r, int which) throws IndexOutOfBoundsException, IllegalArgumentException {
        checkResult(r);
        checkSide(which);
        return side(r, which).bitLength();
    }

    public int word(int r, int which, int i) throws IndexOutOfBoundsException, IllegalArgumentException {
        checkResult(r);
        if (i < 0 || i >= MOST_WORDS) {
            throw new IndexOutOfBoundsException("there is no such word");
        }
        checkSide(which);
        Whole looked = side(r, which);
        return i < looked.size ? looked.words[i] : 0;
    }

    public int write(int name) throws IllegalArgumentException, NoSuchElementException {
        checkName(name);
        checkKnown(name);
        return script.put(names[name]);
    }

    public int written(int i) throws IndexOutOfBoundsException {
        if (i < 0 || i >= script.length) {
            throw new IndexOutOfBoundsException("there is no such character");
        }
        return script.letters[i];
    }

    private static int byteOf(long w, int i) {
        return (int) (w >>> (8 * i)) & 255;
    }

    private static boolean isLong(Fraction looked) {
        return looked.top.bitLength() > MOST_RECKONED_BITS || looked.bottom.bitLength() > MOST_RECKONED_BITS;
    }

    private static void checkName(int name) {
        if (name < 0 || name >= NAMES) {
            throw new IllegalArgumentException("a name is not 0 .. 7");
        }
    }

    private static void checkVariable(int variable) {
        if (variable < 0 || variable >= VARIABLES) {
            throw new IllegalArgumentException("there is no such variable");
        }
    }

    private static void checkStep(int step) {
        if (step < -999 || step > 999) {
            throw new IllegalArgumentException("x, y or z is not -999 .. 999");
        }
    }

    private static void checkSide(int which) {
        if (which < 0 || which > 1) {
            throw new IllegalArgumentException("which is not 0 or 1");
        }
    }

    private static void checkResult(int r) {
        if (r < 0 || r >= RESULTS) {
            throw new IndexOutOfBoundsException("there is no such result");
        }
    }

    private void checkPart(int i) {
        if (i < 0 || i >= shelf.count) {
            throw new IndexOutOfBoundsException("there is no such part");
        }
    }

    private void checkKnown(int name) {
        if (names[name] == NOTHING) {
            throw new NoSuchElementException("there is no expression with this name");
        }
    }

    private void reckonValue(int expression, int r) {
        course.goTo(pointTops, pointBottoms);
        course.followValues(expression);
        course.showValue(expression, results[r]);
        arithmetic.reduce(results[r]);
    }

    /** Stands on the values that reckonValue has just left in the course. */
    private void reckonSlope(int expression, int x, int y, int z, int r) {
        course.head(x, y, z);
        course.followSlopes(expression);
        course.showSlope(expression, results[r]);
        arithmetic.reduce(results[r]);
    }

    private Whole side(int r, int which) {
        return which == 0 ? results[r].top : results[r].bottom;
    }

    /** A whole number in a row of words that is made once; it never outgrows that row by the document's limits. */
    private static final class Whole {
        final int[] words;
        int size;
        boolean below;

        Whole(int room) {
            words = new int[room];
            size = 0;
            below = false;
        }

        void put(long number) {
            long left = Math.abs(number);
            below = number < 0;
            size = 0;
            for (int i = 0; i < 2 && i < words.length && left != 0; i++) {
                words[i] = (int) left;
                left >>>= WORD_BITS;
                size = i + 1;
            }
        }

        void become(Whole other) {
            size = Math.min(other.size, words.length);
            System.arraycopy(other.words, 0, words, 0, size);
            below = other.below;
        }

        boolean isOne() {
            return size == 1 && words[0] == 1 && !below;
        }

        int signum() {
            if (size == 0) {
                return 0;
            }
            return below ? -1 : 1;
        }

        int bitLength() {
            return size == 0 ? 0 : WORD_BITS * size - Integer.numberOfLeadingZeros(words[size - 1]);
        }

        int lowZeros() {
            for (int i = 0; i < size; i++) {
                if (words[i] != 0) {
                    return WORD_BITS * i + Integer.numberOfTrailingZeros(words[i]);
                }
            }
            return 0;
        }

        boolean equalTo(Whole other) {
            if (below != other.below || size != other.size) {
                return false;
            }
            for (int i = 0; i < size; i++) {
                if (words[i] != other.words[i]) {
                    return false;
                }
            }
            return true;
        }

        int orderOfSizes(Whole other) {
            if (size != other.size) {
                return size < other.size ? -1 : 1;
            }
            for (int i = size - 1; i >= 0; i--) {
                if (words[i] != other.words[i]) {
                    return (words[i] & WORD_MASK) < (other.words[i] & WORD_MASK) ? -1 : 1;
                }
            }
            return 0;
        }

        int order(Whole other) {
            if (signum() != other.signum()) {
                return signum() < other.signum() ? -1 : 1;
            }
            int bySize = orderOfSizes(other);
            return below ? -bySize : bySize;
        }

        void turn() {
            below = size > 0 && !below;
        }

        /** This becomes x times y; it is neither of them. */
        void multiply(Whole x, Whole y) {
            int room = x.size == 0 || y.size == 0 ? 0 : Math.min(words.length, x.size + y.size);
            Arrays.fill(words, 0, room, 0);
            for (int i = 0; i < x.size && i < room; i++) {
                long factor = x.words[i] & WORD_MASK;
                long carry = 0;
                for (int j = 0; j < y.size && i + j < room; j++) {
                    carry += factor * (y.words[j] & WORD_MASK) + (words[i + j] & WORD_MASK);
                    words[i + j] = (int) carry;
                    carry >>>= WORD_BITS;
                }
                if (i + y.size < room) {
                    words[i + y.size] = (int) carry;
                }
            }
            size = room > 0 && words[room - 1] == 0 ? room - 1 : room;
            below = size > 0 && x.below != y.below;
        }

        /** This becomes x plus y; it may be one of them. */
        void add(Whole x, Whole y) {
            boolean belowX = x.below;
            boolean belowY = y.below;
            if (belowX == belowY) {
                addSizes(x, y);
                below = belowX;
            } else if (x.orderOfSizes(y) >= 0) {
                takeSizes(x, y);
                below = size > 0 && belowX;
            } else {
                takeSizes(y, x);
                below = belowY;
            }
        }

        private void addSizes(Whole x, Whole y) {
            int sizeX = x.size;
            int sizeY = y.size;
            int room = Math.min(words.length, Math.max(sizeX, sizeY) + 1);
            long carry = 0;
            for (int i = 0; i < room; i++) {
                carry += (i < sizeX ? x.words[i] & WORD_MASK : 0) + (i < sizeY ? y.words[i] & WORD_MASK : 0);
                words[i] = (int) carry;
                carry >>>= WORD_BITS;
            }
            size = room > 0 && words[room - 1] == 0 ? room - 1 : room;
        }

        /** The size of this becomes that of x less that of y, which is no greater; it may be one of them. */
        void takeSizes(Whole x, Whole y) {
            int room = Math.min(words.length, x.size);
            int sizeY = y.size;
            long borrow = 0;
            for (int i = 0; i < room; i++) {
                long digit = (x.words[i] & WORD_MASK) - (i < sizeY ? y.words[i] & WORD_MASK : 0) - borrow;
                words[i] = (int) digit;
                borrow = digit < 0 ? 1 : 0;
            }
            size = room;
            while (size > 0 && words[size - 1] == 0) {
                size--;
            }
        }

        void shiftDown(int places) {
            int skip = places / WORD_BITS;
            int rest = places % WORD_BITS;
            int left = Math.max(size - skip, 0);
            for (int i = 0; i < left; i++) {
                int low = words[i + skip] >>> rest;
                boolean more = rest > 0 && i + skip + 1 < size;
                words[i] = more ? low | words[i + skip + 1] << (WORD_BITS - rest) : low;
            }
            size = left > 0 && words[left - 1] == 0 ? left - 1 : left;
        }

        /** Divides by an odd divisor that leaves no rest, from the lowest word on, as no guess is needed there. */
        void divideEvenly(Whole divisor) {
            if (divisor.size == 0 || divisor.size > size) {
                return;
            }
            int inverse = inverseOf(divisor.words[0]);
            int room = size - divisor.size + 1;
            for (int i = 0; i < room; i++) {
                int digit = words[i] * inverse;
                takeMultiple(digit & WORD_MASK, divisor, i, room);
                words[i] = digit;
            }
            size = room > 0 && words[room - 1] == 0 ? room - 1 : room;
        }

        private void takeMultiple(long factor, Whole y, int from, int room) {
            long carry = 0;
            for (int i = from; i < room; i++) {
                long product = carry;
                if (i - from < y.size) {
                    product += factor * (y.words[i - from] & WORD_MASK);
                }
                long digit = (words[i] & WORD_MASK) - (product & WORD_MASK);
                words[i] = (int) digit;
                carry = (product >>> WORD_BITS) + (digit < 0 ? 1 : 0);
            }
        }

        /** What an odd number must be multiplied by to leave 1 in the lowest word; each round doubles the right bits. */
        private static int inverseOf(int odd) {
            int inverse = odd;
            for (int round = 0; round < 4; round++) {
                inverse *= 2 - odd * inverse;
            }
            return inverse;
        }

        /** Divides by a billion, and answers the rest. */
        int takeNineDigits() {
            long rest = 0;
            for (int i = size - 1; i >= 0; i--) {
                long whole = (rest << WORD_BITS) + (words[i] & WORD_MASK);
                words[i] = (int) (whole / BILLION);
                rest = whole % BILLION;
            }
            size = size > 0 && words[size - 1] == 0 ? size - 1 : size;
            return (int) rest;
        }
    }

    private static final class Fraction {
        final Whole top;
        final Whole bottom;

        Fraction(int room) {
            top = new Whole(room);
            bottom = new Whole(room);
            bottom.put(1);
        }

        void become(Fraction other) {
            top.become(other.top);
            bottom.become(other.bottom);
        }

        void becomeRatio(int p, int q) {
            top.put(p);
            bottom.put(q);
        }

        boolean isZero() {
            return top.size == 0;
        }

        boolean isOne() {
            return top.isOne() && bottom.isOne();
        }
    }

    /** Sums and products of fractions, which the caller reduces, with the rows that they need between. */
    private static final class Arithmetic {
        private final Whole left = new Whole(CROSS_ROOM);
        private final Whole right = new Whole(CROSS_ROOM);
        private final Whole one = new Whole(RESULT_ROOM);
        private final Whole other = new Whole(RESULT_ROOM);

        void add(Fraction x, Fraction y, boolean minus, Fraction to) {
            left.multiply(x.top, y.bottom);
            right.multiply(y.top, x.bottom);
            if (minus) {
                right.turn();
            }
            to.top.add(left, right);
            to.bottom.multiply(x.bottom, y.bottom);
        }

        void multiply(Fraction x, Fraction y, Fraction to) {
            to.top.multiply(x.top, y.top);
            to.bottom.multiply(x.bottom, y.bottom);
        }

        int order(Fraction x, Fraction y) {
            left.multiply(x.top, y.bottom);
            right.multiply(y.top, x.bottom);
            return left.order(right);
        }

        void reduce(Fraction fraction) {
            if (fraction.isZero()) {
                fraction.bottom.put(1);
                return;
            }
            int twos = Math.min(fraction.top.lowZeros(), fraction.bottom.lowZeros());
            fraction.top.shiftDown(twos);
            fraction.bottom.shiftDown(twos);
            Whole common = oddDivisor(fraction.top, fraction.bottom);
            fraction.top.divideEvenly(common);
            fraction.bottom.divideEvenly(common);
        }

        /** The greatest odd common divisor: every round takes at least one bit from the greater of both. */
        private Whole oddDivisor(Whole x, Whole y) {
            one.become(x);
            other.become(y);
            one.below = false;
            one.shiftDown(one.lowZeros());
            other.shiftDown(other.lowZeros());
            Whole greater = one;
            Whole lesser = other;
            int rounds = one.bitLength() + other.bitLength();
            for (int round = 0; round < rounds; round++) {
                int order = greater.orderOfSizes(lesser);
                if (order == 0 || lesser.isOne()) {
                    return lesser;
                }
                if (order < 0) {
                    Whole swapped = greater;
                    greater = lesser;
                    lesser = swapped;
                }
                greater.takeSizes(greater, lesser);
                greater.shiftDown(greater.lowZeros());
            }
            return lesser;
        }
    }

    /** The text that is typed, and the grammar as a machine that looks at each character once. */
    private static final class Text {
        private static final int AWAITED = 0;
        private static final int IN_TOP = 1;
        private static final int IN_ZEROS = 2;
        private static final int IN_BOTTOM = 3;
        private static final int BEHIND_ATOM = 4;
        private static final int BEHIND_CARET = 5;
        private static final int BEHIND_POWER = 6;

        final char[] letters = new char[MOST_LETTERS];
        int length;
        private int state;
        private int open;
        private int digits;

        void append(char letter) {
            if (length < MOST_LETTERS) {
                letters[length] = letter;
                length++;
            }
        }

        /** The sign at a place, or a blank behind the end, which the grammar has nowhere. */
        char at(int place) {
            return place < length ? letters[place] : ' ';
        }

        static boolean isDigit(char letter) {
            return letter >= '0' && letter <= '9';
        }

        static boolean isVariable(char letter) {
            return letter >= 'a' && letter <= 'c';
        }

        static boolean isName(char letter) {
            return letter >= 'A' && letter <= 'H';
        }

        /** Where the text leaves the grammar, its length if it ends too early, or NOTHING. */
        int findWrongPlace() {
            state = AWAITED;
            open = 0;
            for (int i = 0; i < length; i++) {
                if (!takes(letters[i])) {
                    return i;
                }
            }
            boolean ended = state == IN_TOP || state == IN_BOTTOM || state == BEHIND_ATOM || state == BEHIND_POWER;
            return ended && open == 0 ? NOTHING : length;
        }

        private boolean takes(char letter) {
            switch (state) {
                case AWAITED:
                    return takesFirst(letter);
                case IN_TOP:
                    return takesInTop(letter);
                case IN_ZEROS:
                    return takesInZeros(letter);
                case IN_BOTTOM:
                    return isDigit(letter) ? takesDigit() : takesNext(letter);
                case BEHIND_CARET:
                    state = BEHIND_POWER;
                    return isDigit(letter);
                default:
                    return takesNext(letter);
            }
        }

        private boolean takesFirst(char letter) {
            if (isDigit(letter)) {
                state = IN_TOP;
                digits = 1;
                return true;
            }
            if (isVariable(letter) || isName(letter)) {
                state = BEHIND_ATOM;
                return true;
            }
            if (letter == '(') {
                open++;
                return true;
            }
            return letter == '-';
        }

        private boolean takesInTop(char letter) {
            if (letter == '/') {
                state = IN_ZEROS;
                digits = 0;
                return true;
            }
            return isDigit(letter) ? takesDigit() : takesNext(letter);
        }

        private boolean takesInZeros(char letter) {
            if (letter == '0') {
                digits++;
                return digits < 4;
            }
            state = IN_BOTTOM;
            return isDigit(letter) && takesDigit();
        }

        private boolean takesDigit() {
            digits++;
            return digits <= 4;
        }

        private boolean takesNext(char letter) {
            if (letter == '^') {
                boolean canRise = state != BEHIND_POWER;
                state = BEHIND_CARET;
                return canRise;
            }
            if (letter == ')') {
                state = BEHIND_ATOM;
                open--;
                return open >= 0;
            }
            state = AWAITED;
            return letter == '+' || letter == '-' || letter == '*';
        }
    }

    private static final class Part {
        final Fraction number = new Fraction(NUMBER_ROOM);
        int sort;
        int first;
        int second;
        int degree;
        int sizeN;
        int sizeD;

        boolean says(int otherSort, int otherFirst, int otherSecond) {
            return sort == otherSort && first == otherFirst && second == otherSecond;
        }
    }

    /**
     * The parts, and how they are made. What makes a part answers its number, or LARGE or FULL; an
     * operand that could not be made is answered as it is, so that the first failure stays.
     */
    private static final class Shelf {
        final Part[] parts = new Part[MOST_PARTS];
        final boolean[] marked = new boolean[MOST_PARTS];
        int count;
        private final int[] slopes = new int[MOST_PARTS];
        private final Arithmetic arithmetic;
        private final Fraction work = new Fraction(RESULT_ROOM);
        private final Whole hold = new Whole(RESULT_ROOM);

        Shelf(Arithmetic arithmetic) {
            this.arithmetic = arithmetic;
            for (int i = 0; i < MOST_PARTS; i++) {
                parts[i] = new Part();
            }
        }

        int makeWhole(int number) {
            work.becomeRatio(number, 1);
            return keepNumber();
        }

        int makeRatio(int p, int q) {
            work.becomeRatio(p, q);
            arithmetic.reduce(work);
            return keepNumber();
        }

        int makeVariable(int variable) {
            return keep(VARIABLE, variable, NOTHING, 1, 1, 0);
        }

        int makeSum(int x, int y) {
            if (x < 0 || y < 0) {
                return x < 0 ? x : y;
            }
            Part one = parts[x];
            Part other = parts[y];
            if (one.sort == NUMBER && other.sort == NUMBER) {
                arithmetic.add(one.number, other.number, false, work);
                arithmetic.reduce(work);
                return keepNumber();
            }
            if (isZero(one)) {
                return y;
            }
            if (isZero(other)) {
                return x;
            }
            int sizeN = 1 + Math.max(one.sizeN + other.sizeD, other.sizeN + one.sizeD);
            return keep(SUM, x, y, Math.max(one.degree, other.degree), sizeN, one.sizeD + other.sizeD);
        }

        int makeProduct(int x, int y) {
            if (x < 0 || y < 0) {
                return x < 0 ? x : y;
            }
            Part one = parts[x];
            Part other = parts[y];
            if (one.sort == NUMBER && other.sort == NUMBER) {
                arithmetic.multiply(one.number, other.number, work);
                arithmetic.reduce(work);
                return keepNumber();
            }
            if (isZero(one) || isUnit(other)) {
                return x;
            }
            if (isZero(other) || isUnit(one)) {
                return y;
            }
            int sizeN = one.sizeN + other.sizeN + 8;
            return keep(PRODUCT, x, y, one.degree + other.degree, sizeN, one.sizeD + other.sizeD);
        }

        int makePower(int x, int exponent) {
            if (x < 0 || exponent == 1) {
                return x;
            }
            if (exponent == 0) {
                return makeWhole(1);
            }
            Part base = parts[x];
            if (base.sort == NUMBER) {
                return makeNumberPower(base.number, exponent);
            }
            int sizeN = exponent * (base.sizeN + 8);
            return keep(POWER, x, exponent, exponent * base.degree, sizeN, exponent * base.sizeD);
        }

        int makeNegative(int x) {
            if (x < 0) {
                return x;
            }
            return makeProduct(makeWhole(-1), x);
        }

        /** A power of a fraction needs no reducing, and its bits never shrink: it stops when they are too many. */
        private int makeNumberPower(Fraction base, int exponent) {
            work.becomeRatio(1, 1);
            for (int i = 0; i < exponent; i++) {
                hold.multiply(work.top, base.top);
                work.top.become(hold);
                hold.multiply(work.bottom, base.bottom);
                work.bottom.become(hold);
                if (work.top.bitLength() > MOST_SIZE || work.bottom.bitLength() > MOST_SIZE) {
                    return LARGE;
                }
            }
            return keepNumber();
        }

        private static boolean isZero(Part looked) {
            return looked.sort == NUMBER && looked.number.isZero();
        }

        private static boolean isUnit(Part looked) {
            return looked.sort == NUMBER && looked.number.isOne();
        }

        private int keepNumber() {
            int sizeN = Math.max(work.top.bitLength(), 1);
            int sizeD = work.bottom.isOne() ? 0 : work.bottom.bitLength();
            if (sizeN > MOST_SIZE || sizeD > MOST_SIZE) {
                return LARGE;
            }
            for (int i = 0; i < count; i++) {
                Fraction there = parts[i].number;
                boolean same = there.top.equalTo(work.top) && there.bottom.equalTo(work.bottom);
                if (same && parts[i].sort == NUMBER) {
                    return i;
                }
            }
            int at = lay(NUMBER, NOTHING, NOTHING, 0, sizeN, sizeD);
            if (at >= 0) {
                parts[at].number.top.become(work.top);
                parts[at].number.bottom.become(work.bottom);
            }
            return at;
        }

        private int keep(int sort, int first, int second, int degree, int sizeN, int sizeD) {
            if (degree > MOST_DEGREE || sizeN > MOST_SIZE || sizeD > MOST_SIZE) {
                return LARGE;
            }
            for (int i = 0; i < count; i++) {
                if (parts[i].says(sort, first, second)) {
                    return i;
                }
            }
            return lay(sort, first, second, degree, sizeN, sizeD);
        }

        private int lay(int sort, int first, int second, int degree, int sizeN, int sizeD) {
            if (count >= MOST_PARTS) {
                return FULL;
            }
            Part laid = parts[count];
            laid.sort = sort;
            laid.first = first;
            laid.second = second;
            laid.degree = degree;
            laid.sizeN = sizeN;
            laid.sizeD = sizeD;
            count++;
            return count - 1;
        }

        /** Marks the parts that an expression has, and counts them; operands always have lesser numbers. */
        int mark(int expression) {
            for (int i = 0; i < expression; i++) {
                marked[i] = false;
            }
            marked[expression] = true;
            int seen = 0;
            for (int i = expression; i >= 0; i--) {
                if (marked[i]) {
                    seen++;
                    markOperands(parts[i]);
                }
            }
            return seen;
        }

        private void markOperands(Part looked) {
            if (looked.sort == SUM || looked.sort == PRODUCT) {
                marked[looked.first] = true;
                marked[looked.second] = true;
            } else if (looked.sort == POWER) {
                marked[looked.first] = true;
            }
        }

        int derivative(int expression, int variable) {
            mark(expression);
            for (int i = 0; i <= expression; i++) {
                if (!marked[i]) {
                    continue;
                }
                Part of = parts[i];
                if (of.sort == SUM) {
                    slopes[i] = makeSum(slopes[of.first], slopes[of.second]);
                } else if (of.sort == PRODUCT) {
                    slopes[i] = makeProductSlope(of.first, of.second);
                } else if (of.sort == POWER) {
                    slopes[i] = makePowerSlope(of.first, of.second);
                } else {
                    slopes[i] = makeWhole(of.sort == VARIABLE && of.first == variable ? 1 : 0);
                }
                if (slopes[i] < 0) {
                    return slopes[i];
                }
            }
            return slopes[expression];
        }

        private int makeProductSlope(int x, int y) {
            int before = makeProduct(slopes[x], y);
            if (before < 0) {
                return before;
            }
            int behind = makeProduct(x, slopes[y]);
            return makeSum(before, behind);
        }

        private int makePowerSlope(int x, int exponent) {
            int factor = makeWhole(exponent);
            if (factor < 0) {
                return factor;
            }
            int lower = makePower(x, exponent - 1);
            return makeProduct(makeProduct(factor, lower), slopes[x]);
        }
    }

    /**
     * Turns a text that keeps to the grammar into a row of steps, each behind those that make its
     * operands, and then makes the parts step by step.
     */
    private static final class Reader {
        private static final int NAMED = 5;
        private static final int NEGATIVE = 6;
        private static final int LEVEL_OF_SUMS = 1;
        /** Stands for a - of a factor among the open operators; the grammar has no such character. */
        private static final char FACTOR_MINUS = '~';
        /** A character stands for at most two steps: an operator - for a NEGATIVE and a SUM. */
        private static final int MOST_STEPS = 2 * MOST_LETTERS;

        private final Text text;
        private final Shelf shelf;
        private final char[] operators = new char[MOST_LETTERS];
        private final int[] kinds = new int[MOST_STEPS];
        private final int[] firsts = new int[MOST_STEPS];
        private final int[] seconds = new int[MOST_STEPS];
        private final int[] operands = new int[MOST_STEPS];
        private int operatorCount;
        private int stepCount;
        private int cursor;

        Reader(Text text, Shelf shelf) {
            this.text = text;
            this.shelf = shelf;
        }

        /** Answers whether all names in the text have an expression. */
        boolean arrange(int[] names) {
            operatorCount = 0;
            stepCount = 0;
            cursor = 0;
            boolean awaited = true;
            boolean known = true;
            for (int i = 0; i < MOST_LETTERS && cursor < text.length; i++) {
                char letter = text.at(cursor);
                if (letter == '(') {
                    open(letter);
                } else if (letter == '-' && awaited) {
                    open(FACTOR_MINUS);
                } else if (letter == '+' || letter == '-' || letter == '*') {
                    settle(levelOf(letter));
                    open(letter);
                    awaited = true;
                } else {
                    known &= !Text.isName(letter) || names[letter - 'A'] != NOTHING;
                    readAtom(letter, names);
                    readExponent();
                    awaited = false;
                }
            }
            settle(LEVEL_OF_SUMS);
            return known;
        }

        int make() {
            int height = 0;
            for (int i = 0; i < stepCount; i++) {
                int made;
                height += growthBy(kinds[i]);
                if (height < 1) {
                    return SYNTAX;
                }
                int at = height - 1;
                switch (kinds[i]) {
                    case NUMBER:
                        made = shelf.makeRatio(firsts[i], seconds[i]);
                        break;
                    case VARIABLE:
                        made = shelf.makeVariable(firsts[i]);
                        break;
                    case NAMED:
                        made = firsts[i];
                        break;
                    case NEGATIVE:
                        made = shelf.makeNegative(operands[at]);
                        break;
                    case POWER:
                        made = shelf.makePower(operands[at], firsts[i]);
                        break;
                    case SUM:
                        made = shelf.makeSum(operands[at], operands[height]);
                        break;
                    default:
                        made = shelf.makeProduct(operands[at], operands[height]);
                }
                if (made < 0) {
                    return made;
                }
                operands[at] = made;
            }
            return height == 1 ? operands[0] : SYNTAX;
        }

        /** By how many the row of operands grows with a step. */
        private static int growthBy(int kind) {
            if (kind == SUM || kind == PRODUCT) {
                return -1;
            }
            return kind == POWER || kind == NEGATIVE ? 0 : 1;
        }

        private static int levelOf(char operator) {
            if (operator == FACTOR_MINUS) {
                return LEVEL_OF_SUMS + 2;
            }
            if (operator == '*') {
                return LEVEL_OF_SUMS + 1;
            }
            return operator == '(' ? LEVEL_OF_SUMS - 1 : LEVEL_OF_SUMS;
        }

        private void open(char operator) {
            if (operatorCount < MOST_LETTERS) {
                operators[operatorCount] = operator;
                operatorCount++;
            }
            cursor++;
        }

        private void addStep(int kind, int first, int second) {
            if (stepCount < MOST_STEPS) {
                kinds[stepCount] = kind;
                firsts[stepCount] = first;
                seconds[stepCount] = second;
                stepCount++;
            }
        }

        /** Adds the steps of the open operators of this level and of higher ones, the last one first. */
        private void settle(int least) {
            while (operatorCount > 0 && levelOf(operators[operatorCount - 1]) >= least) {
                operatorCount--;
                char operator = operators[operatorCount];
                if (operator == '-' || operator == FACTOR_MINUS) {
                    addStep(NEGATIVE, NOTHING, NOTHING);
                }
                if (operator == '*') {
                    addStep(PRODUCT, NOTHING, NOTHING);
                } else if (operator != FACTOR_MINUS) {
                    addStep(SUM, NOTHING, NOTHING);
                }
            }
        }

        private void readAtom(char letter, int[] names) {
            if (Text.isDigit(letter)) {
                readNumber();
                return;
            }
            cursor++;
            if (letter == ')') {
                settle(LEVEL_OF_SUMS);
                operatorCount = Math.max(operatorCount - 1, 0);
            } else if (Text.isName(letter)) {
                addStep(NAMED, names[letter - 'A'], NOTHING);
            } else {
                addStep(VARIABLE, letter - 'a', NOTHING);
            }
        }

        private void readNumber() {
            int p = readDigits();
            int q = 1;
            if (text.at(cursor) == '/') {
                cursor++;
                q = readDigits();
            }
            addStep(NUMBER, p, q);
        }

        private int readDigits() {
            int number = 0;
            for (int i = 0; i < 4 && Text.isDigit(text.at(cursor)); i++) {
                number = 10 * number + text.at(cursor) - '0';
                cursor++;
            }
            return number;
        }

        private void readExponent() {
            if (text.at(cursor) == '^') {
                addStep(POWER, text.at(cursor + 1) - '0', NOTHING);
                cursor += 2;
            }
        }
    }

    /**
     * Follows an expression at the POINT with whole numbers alone, so that only what is shown at the
     * end has to be reduced. With Q the product of the POINT's denominators, a part of DEGREE k has the
     * value values / (bases * Q ^ k) and the slope slopes / (bases * Q ^ (k - 1)); the sizes n and d and
     * their limits keep these numbers short.
     */
    private static final class Course {
        private final Shelf shelf;
        private final Whole[] values = new Whole[MOST_PARTS];
        private final Whole[] slopes = new Whole[MOST_PARTS];
        private final Whole[] bases = new Whole[MOST_PARTS];
        private final Whole[] scales = new Whole[MOST_DEGREE + 1];
        private final long[] tops = new long[VARIABLES];
        private final int[] heading = new int[VARIABLES];
        private final Whole left = new Whole(COURSE_ROOM);
        private final Whole right = new Whole(COURSE_ROOM);
        private final Whole hold = new Whole(COURSE_ROOM);

        Course(Shelf shelf) {
            this.shelf = shelf;
            for (int i = 0; i < MOST_PARTS; i++) {
                values[i] = new Whole(COURSE_ROOM);
                slopes[i] = new Whole(COURSE_ROOM);
                bases[i] = new Whole(NUMBER_ROOM);
            }
            for (int i = 0; i <= MOST_DEGREE; i++) {
                scales[i] = new Whole(NUMBER_ROOM);
            }
        }

        void goTo(int[] pointTops, int[] pointBottoms) {
            long common = 1;
            for (int v = 0; v < VARIABLES; v++) {
                common *= pointBottoms[v];
                tops[v] = pointTops[v];
                for (int other = 0; other < VARIABLES; other++) {
                    tops[v] *= other == v ? 1 : pointBottoms[other];
                }
            }
            hold.put(common);
            scales[0].put(1);
            for (int i = 1; i <= MOST_DEGREE; i++) {
                scales[i].multiply(scales[i - 1], hold);
            }
        }

        void head(int x, int y, int z) {
            heading[0] = x;
            heading[1] = y;
            heading[2] = z;
        }

        void followValues(int expression) {
            shelf.mark(expression);
            for (int i = 0; i <= expression; i++) {
                if (shelf.marked[i]) {
                    findBase(shelf.parts[i], bases[i]);
                    findValue(shelf.parts[i], values[i]);
                }
            }
        }

        void followSlopes(int expression) {
            shelf.mark(expression);
            for (int i = 0; i <= expression; i++) {
                if (shelf.marked[i]) {
                    findSlope(shelf.parts[i], slopes[i]);
                }
            }
        }

        void showValue(int expression, Fraction to) {
            to.top.become(values[expression]);
            to.bottom.multiply(bases[expression], scales[shelf.parts[expression].degree]);
        }

        void showSlope(int expression, Fraction to) {
            int degree = shelf.parts[expression].degree;
            to.top.become(slopes[expression]);
            to.bottom.multiply(bases[expression], scales[Math.max(degree - 1, 0)]);
        }

        private void findBase(Part of, Whole to) {
            switch (of.sort) {
                case NUMBER:
                    to.become(of.number.bottom);
                    break;
                case VARIABLE:
                    to.put(1);
                    break;
                case POWER:
                    raise(bases[of.first], of.second);
                    to.become(left);
                    break;
                default:
                    to.multiply(bases[of.first], bases[of.second]);
            }
        }

        private void findValue(Part of, Whole to) {
            switch (of.sort) {
                case NUMBER:
                    to.become(of.number.top);
                    break;
                case VARIABLE:
                    to.put(tops[of.first]);
                    break;
                case SUM:
                    addWidened(values, of, to);
                    break;
                case PRODUCT:
                    to.multiply(values[of.first], values[of.second]);
                    break;
                default:
                    raise(values[of.first], of.second);
                    to.become(left);
            }
        }

        private void findSlope(Part of, Whole to) {
            switch (of.sort) {
                case NUMBER:
                    to.put(0);
                    break;
                case VARIABLE:
                    to.put(heading[of.first]);
                    break;
                case SUM:
                    addWidened(slopes, of, to);
                    break;
                case PRODUCT:
                    left.multiply(slopes[of.first], values[of.second]);
                    right.multiply(values[of.first], slopes[of.second]);
                    to.add(left, right);
                    break;
                default:
                    raise(values[of.first], of.second - 1);
                    right.multiply(left, slopes[of.first]);
                    hold.put(of.second);
                    to.multiply(right, hold);
            }
        }

        private void addWidened(Whole[] rows, Part of, Whole to) {
            widen(rows, of.first, of.second, of.degree, left);
            widen(rows, of.second, of.first, of.degree, right);
            to.add(left, right);
        }

        /** Brings one operand of a sum over the denominator that the sum has. */
        private void widen(Whole[] rows, int own, int other, int degree, Whole to) {
            hold.multiply(rows[own], bases[other]);
            to.multiply(hold, scales[degree - shelf.parts[own].degree]);
        }

        /** Leaves the power in the row left. */
        private void raise(Whole base, int exponent) {
            left.put(1);
            for (int i = 0; i < exponent; i++) {
                hold.multiply(left, base);
                left.become(hold);
            }
        }
    }

    /** Writes an expression, each piece straight to its place, as the lengths of all pieces are found before. */
    private static final class Script {
        private static final int MOST_DIGITS = 135;

        final char[] letters = new char[MOST_WRITTEN];
        int length;
        private final Shelf shelf;
        private final int[] lengths = new int[MOST_PARTS];
        private final int[] waiting = new int[MOST_WRITTEN];
        private final int[] places = new int[MOST_WRITTEN];
        private final char[] digits = new char[MOST_DIGITS];
        private final Whole left = new Whole(NUMBER_ROOM);
        private int waitingCount;

        Script(Shelf shelf) {
            this.shelf = shelf;
        }

        int put(int expression) {
            shelf.mark(expression);
            for (int i = 0; i <= expression; i++) {
                if (shelf.marked[i]) {
                    lengths[i] = Math.min(lengthOf(shelf.parts[i]), MOST_WRITTEN + 1);
                }
            }
            if (lengths[expression] > MOST_WRITTEN) {
                return LARGE;
            }
            length = lengths[expression];
            waitingCount = 0;
            await(expression, 0);
            for (int i = 0; i < MOST_WRITTEN && waitingCount > 0; i++) {
                waitingCount--;
                putPiece(waiting[waitingCount], places[waitingCount]);
            }
            return length;
        }

        private int lengthOf(Part of) {
            switch (of.sort) {
                case NUMBER:
                    return lengthOfNumber(of.number);
                case VARIABLE:
                    return 1;
                case POWER:
                    return lengths[of.first] + 2;
                default:
                    return lengths[of.first] + lengths[of.second] + 3;
            }
        }

        private int lengthOfNumber(Fraction number) {
            int all = findDigits(number.top) + (number.top.below ? 1 : 0);
            return number.bottom.isOne() ? all : all + 1 + findDigits(number.bottom);
        }

        private void await(int piece, int place) {
            if (waitingCount < MOST_WRITTEN) {
                waiting[waitingCount] = piece;
                places[waitingCount] = place;
                waitingCount++;
            }
        }

        private void putPiece(int piece, int place) {
            Part of = shelf.parts[piece];
            switch (of.sort) {
                case NUMBER:
                    putNumber(of.number, place);
                    break;
                case VARIABLE:
                    putLetter(place, (char) ('a' + of.first));
                    break;
                case POWER:
                    await(of.first, place);
                    putLetter(place + lengths[piece] - 2, '^');
                    putLetter(place + lengths[piece] - 1, (char) ('0' + of.second));
                    break;
                default:
                    putLetter(place, '(');
                    await(of.first, place + 1);
                    putLetter(place + 1 + lengths[of.first], of.sort == SUM ? '+' : '*');
                    await(of.second, place + 2 + lengths[of.first]);
                    putLetter(place + lengths[piece] - 1, ')');
            }
        }

        private void putNumber(Fraction number, int place) {
            int at = place;
            if (number.top.below) {
                putLetter(at, '-');
                at++;
            }
            at = putDigits(number.top, at);
            if (!number.bottom.isOne()) {
                putLetter(at, '/');
                putDigits(number.bottom, at + 1);
            }
        }

        private int putDigits(Whole number, int place) {
            int found = findDigits(number);
            for (int i = 0; i < found; i++) {
                putLetter(place + i, digits[found - 1 - i]);
            }
            return place + found;
        }

        /** Finds the digits of a number's size, the lowest first, and answers how many there are. */
        private int findDigits(Whole number) {
            left.become(number);
            int found = 0;
            for (int group = 0; 9 * group + 9 <= MOST_DIGITS && left.size > 0; group++) {
                int nine = left.takeNineDigits();
                for (int i = 0; i < 9; i++) {
                    digits[9 * group + i] = (char) ('0' + nine % 10);
                    nine /= 10;
                }
                found = 9 * group + 9;
            }
            while (found > 1 && digits[found - 1] == '0') {
                found--;
            }
            if (found == 0) {
                digits[0] = '0';
            }
            return Math.max(found, 1);
        }

        private void putLetter(int place, char letter) {
            if (place >= 0 && place < MOST_WRITTEN) {
                letters[place] = letter;
            }
        }
    }
}
