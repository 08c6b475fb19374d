import java.util.NoSuchElementException;

/**
 * A call that throws changes nothing, nor does one that answers that it was refused (but for the text and
 * the place after define). Two desks that are alike: the refused call comes to one of them, and then all
 * that can be seen of both must be the same.
 */
public final class GradientDeskRefusals extends Bench {
    private static final Class<IllegalArgumentException> ARGUMENT = IllegalArgumentException.class;
    private static final Class<IllegalStateException> STATE = IllegalStateException.class;
    private static final Class<IndexOutOfBoundsException> INDEX = IndexOutOfBoundsException.class;
    private static final Class<NoSuchElementException> ELEMENT = NoSuchElementException.class;

    private interface Dealing {
        void with(GradientDesk desk);
    }

    private interface Asking {
        Object of(GradientDesk desk);
    }

    public static void main(String[] args) {
        texts();
        expressions();
        partsAndNumbers();
        points();
        reckoning();
        writings();
        refusedTexts();
        refusedDerivatives();
        refusedReckoning();
        refusedWriting();
        questions();
        end("refused calls change nothing");
    }

    // ---- two desks that are alike

    /** A desk on which all that a desk holds is something else than at first. */
    private static GradientDesk busyDesk() {
        GradientDesk desk = new GradientDesk();
        define(desk, "1/2*a^2-b", 0);
        define(desk, "A*c", 1);
        desk.derive(0, 0, 7);
        desk.set(0, 1, 3);
        desk.set(1, -2, 5);
        desk.set(2, 7, 1);
        desk.gradient(1);
        desk.along(1, 1, 2, 3);
        desk.reckon(0, 6, 1, 2);
        desk.reckon(2, 7, 6, 6);
        desk.write(0);
        define(desk, "a+*", 2);
        typeAll(desk, "a+b*");
        return desk;
    }

    /** All that can be seen of a desk; what is typed, set and named is seen last, as that changes the desk. */
    private static String allOf(GradientDesk desk) {
        StringBuilder all = new StringBuilder();
        all.append("place ").append(desk.place()).append(", written ");
        for (int i = 0; i < 250 && thrown(desk, i).equals("nothing"); i++) {
            all.append((char) desk.written(i));
        }
        all.append(", RESULTS ").append(results(desk, 0, 7)).append(", parts");
        for (int i = 0; i < desk.made(); i++) {
            all.append(" | ").append(look(desk, i));
        }
        all.append(", text ").append(desk.type('c', 1)).append(' ').append(desk.define(5)).append(' ').append(desk.place());
        all.append(", names");
        for (int name = 0; name < 8; name++) {
            int asked = name;
            boolean there = thrownBy(() -> desk.parts(asked)).equals("nothing");
            all.append(' ').append(there ? written(desk, name) : "none");
        }
        for (String variable : new String[] {"a", "b", "c"}) {
            define(desk, variable, 6);
            desk.gradient(6);
            all.append(", ").append(variable).append(" = ").append(result(desk, 0));
        }
        return all.toString();
    }

    private static String thrown(GradientDesk desk, int i) {
        return thrownBy(() -> desk.written(i));
    }

    private static void refused(String call, Class<? extends RuntimeException> want, Dealing dealing) {
        GradientDesk desk = busyDesk();
        dueThrow(call, want, () -> dealing.with(desk));
        due("all of the desk after " + call, allOf(desk), allOf(busyDesk()));
    }

    // ---- calls that throw

    private static void texts() {
        about("2: a call that throws changes nothing");
        refused("type(c, 0)", ARGUMENT, desk -> desk.type('c', 0));
        refused("type(c, 9)", ARGUMENT, desk -> desk.type('c', 9));
        refused("type(c and 31)", ARGUMENT, desk -> desk.type('c' | 31 << 8, 2));
        refused("type(c and 127)", ARGUMENT, desk -> desk.type('c' | 127 << 8, 2));
        GradientDesk desk = busyDesk();
        GradientDesk twin = busyDesk();
        for (GradientDesk each : new GradientDesk[] {desk, twin}) {
            typeAll(each, "c" + "+c".repeat(26) + "+");
        }
        dueThrow("seven behind 58", STATE, () -> desk.type(packed("c*c*c*c"), 7));
        due("all of the desk after no room", allOf(desk), allOf(twin));
    }

    private static void expressions() {
        about("3 and 5: a call that throws changes nothing");
        refused("define(-1)", ARGUMENT, desk -> desk.define(-1));
        refused("define(8)", ARGUMENT, desk -> desk.define(8));
        refused("derive(8, 0, 0)", ARGUMENT, desk -> desk.derive(8, 0, 0));
        refused("derive(0, 3, 0)", ARGUMENT, desk -> desk.derive(0, 3, 0));
        refused("derive(0, 0, 8)", ARGUMENT, desk -> desk.derive(0, 0, 8));
        refused("derive(0, 0, -1)", ARGUMENT, desk -> desk.derive(0, 0, -1));
        refused("derive(3, 0, 0)", ELEMENT, desk -> desk.derive(3, 0, 0));
    }

    private static void partsAndNumbers() {
        about("7, 8 and 9: a call that throws changes nothing");
        refused("parts(8)", ARGUMENT, desk -> desk.parts(8));
        refused("parts(3)", ELEMENT, desk -> desk.parts(3));
        refused("part(-1, 0)", INDEX, desk -> desk.part(-1, 0));
        refused("part(0, 6)", ARGUMENT, desk -> desk.part(0, 6));
        refused("number(-1, 1)", INDEX, desk -> desk.number(-1, 1));
        refused("number(made, 1)", INDEX, desk -> desk.number(desk.made(), 1));
        refused("number(0, 8)", INDEX, desk -> desk.number(0, 8));
    }

    private static void points() {
        about("11, 12 and 13: a call that throws changes nothing");
        refused("set(3, 1, 1)", ARGUMENT, desk -> desk.set(3, 1, 1));
        refused("set(0, 10000, 1)", ARGUMENT, desk -> desk.set(0, 10000, 1));
        refused("set(0, 1, 0)", ARGUMENT, desk -> desk.set(0, 1, 0));
        refused("set(0, 1, 10000)", ARGUMENT, desk -> desk.set(0, 1, 10000));
        refused("gradient(-1)", ARGUMENT, desk -> desk.gradient(-1));
        refused("gradient(3)", ELEMENT, desk -> desk.gradient(3));
        refused("along(8, 1, 1, 1)", ARGUMENT, desk -> desk.along(8, 1, 1, 1));
        refused("along(0, 1, 1, 1000)", ARGUMENT, desk -> desk.along(0, 1, 1, 1000));
        refused("along(3, 1, 1, 1)", ELEMENT, desk -> desk.along(3, 1, 1, 1));
    }

    private static void reckoning() {
        about("14 to 18: a call that throws changes nothing");
        refused("reckon(0, 8, 0, 0)", INDEX, desk -> desk.reckon(0, 8, 0, 0));
        refused("reckon(0, 0, -1, 0)", INDEX, desk -> desk.reckon(0, 0, -1, 0));
        refused("reckon(0, 0, 0, 8)", INDEX, desk -> desk.reckon(0, 0, 0, 8));
        refused("reckon(3, 0, 1, 2)", ARGUMENT, desk -> desk.reckon(3, 0, 1, 2));
        refused("compare(0, 8)", INDEX, desk -> desk.compare(0, 8));
        refused("sign(8)", INDEX, desk -> desk.sign(8));
        refused("bits(8, 0)", INDEX, desk -> desk.bits(8, 0));
        refused("bits(0, 2)", ARGUMENT, desk -> desk.bits(0, 2));
        refused("word(0, 0, 64)", INDEX, desk -> desk.word(0, 0, 64));
        refused("word(0, 2, 0)", ARGUMENT, desk -> desk.word(0, 2, 0));
    }

    private static void writings() {
        about("19 and 20: a call that throws changes nothing");
        refused("write(8)", ARGUMENT, desk -> desk.write(8));
        refused("write(3)", ELEMENT, desk -> desk.write(3));
        refused("written(-1)", INDEX, desk -> desk.written(-1));
        refused("written(250)", INDEX, desk -> desk.written(250));
    }

    // ---- calls that answer that they were refused

    private static void refusedTexts() {
        about("3: with the text empty likewise, and nothing else changed");
        refusedText("d", SYNTAX);
        refusedText("c^5+7)", SYNTAX);
        refusedText("c^5+7*D", UNKNOWN);
        refusedText("c^5+7-c^9", LARGE);
    }

    /** The place is left out of it, by a good text that follows on both desks. */
    private static void refusedText(String text, int want) {
        GradientDesk desk = busyDesk();
        GradientDesk twin = busyDesk();
        desk.define(3);
        twin.define(3);
        due("define of " + text, define(desk, text, 0), want);
        due("made after " + text, desk.made(), twin.made());
        due("the text after " + text, desk.type('b', 1), twin.type('b', 1));
        due("what it becomes", desk.define(4), twin.define(4));
        due("all of the desk after " + text, allOf(desk), allOf(twin));
    }

    private static void refusedDerivatives() {
        about("5: LARGE, and all that was made by this call is taken back");
        GradientDesk desk = new GradientDesk();
        GradientDesk twin = new GradientDesk();
        for (GradientDesk each : new GradientDesk[] {desk, twin}) {
            define(each, "(1/2^9)^9*1/2^9*1/2^9*1/2", 0);
            define(each, "(a*A)*(a*A)", 1);
            define(each, "b", 2);
            define(each, "b+", 3);
            typeAll(each, "c*");
        }
        due("derive", desk.derive(1, 0, 2), LARGE);
        due("derive for its own name", desk.derive(1, 0, 1), LARGE);
        due("derive for a new name", desk.derive(1, 0, 4), LARGE);
        due("all of the desk after LARGE", allOf(desk), allOf(twin));
    }

    private static void refusedReckoning() {
        about("14: if their p or q has more than 1,000 bits, nothing is changed");
        GradientDesk desk = busyDesk();
        GradientDesk twin = busyDesk();
        for (GradientDesk each : new GradientDesk[] {desk, twin}) {
            for (int k = 0; k < 8; k++) {
                each.reckon(2, 7, 7, 7);
            }
        }
        due("RESULT 7 is long", Math.max(desk.bits(7, 0), desk.bits(7, 1)) > 1000, true);
        due("reckon", desk.reckon(0, 1, 7, 1), false);
        due("reckon", desk.reckon(2, 2, 3, 7), false);
        due("reckon", desk.reckon(1, 7, 7, 7), false);
        due("all of the desk after false", allOf(desk), allOf(twin));
    }

    private static void refusedWriting() {
        about("19: LARGE (and what was written last stays)");
        GradientDesk desk = busyDesk();
        GradientDesk twin = busyDesk();
        for (GradientDesk each : new GradientDesk[] {desk, twin}) {
            each.define(3);
            define(each, "A", 2);
            for (int k = 0; k < 4; k++) {
                define(each, "C+C", 2);
            }
        }
        due("write", desk.write(2), LARGE);
        define(desk, "a", 2);
        define(twin, "a", 2);
        due("all of the desk after LARGE", allOf(desk), allOf(twin));
    }

    // ---- calls that only ask

    private static void questions() {
        about("4 and 6 to 20: what only asks changes nothing");
        Asking[] askings = {GradientDesk::place, GradientDesk::made, desk -> desk.parts(1), desk -> desk.part(3, 4),
            desk -> desk.compare(1, 2), desk -> desk.sign(1), desk -> desk.bits(1, 0), desk -> desk.word(1, 0, 0),
            desk -> desk.written(3)};
        for (int i = 0; i < askings.length; i++) {
            GradientDesk desk = busyDesk();
            due("question " + i + " again", askings[i].of(desk), askings[i].of(desk));
            due("all of the desk after question " + i, allOf(desk), allOf(busyDesk()));
        }
    }
}
