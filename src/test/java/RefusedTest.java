/**
 * "Else a call that throws changes nothing", and of set, name, mark and write: THE TEXT "is empty then, also if they
 * throw (but not IllegalArgumentException, which comes first)".
 */
public final class RefusedTest {
    private static final int[] FAR = {-2, 1000, Integer.MAX_VALUE, Integer.MIN_VALUE, Integer.MIN_VALUE + 1, 1 << 16, 1 << 8};
    private static final Class<? extends RuntimeException> ARGUMENT = IllegalArgumentException.class;
    private static final Class<? extends RuntimeException> UNSUPPORTED = UnsupportedOperationException.class;

    public static void main(String[] args) {
        feedWithoutRoomChangesNothing();
        endChangesNothing();
        groupsChangesNothing();
        setOfNoGroupChangesNothing();
        setOfWhatIsNotUtf8EmptiesTheText();
        unsetChangesNothing();
        nameOfNoGroupChangesNothing();
        nameOfWhatIsNoNameEmptiesTheText();
        markOfWhatIsNotUtf8EmptiesTheText();
        writeWithOtherOptionsChangesNothing();
        resultChangesNothing();
        faultChangesNothing();
        argumentsComeFirst();
        Check.finish();
    }

    /** Groups 0 to 3, of which 1 and 2 are set, with names, a mark and a result; THE TEXT is added. */
    private static Check full(int mode, String text) {
        Check c = new Check(mode).groups(3).set(1, "one").set(2, "").name(1, "n").name(3, "m").name(3, "m").mark("mark");
        c.writes("re$1", 0, "reone");
        return c.feedBytes(Check.bytes(text));
    }

    /** The same, but the last write had a code. */
    private static Check failed(int mode, String text) {
        Check c = new Check(mode).groups(3).set(1, "one").set(2, "").name(1, "n").name(3, "m").name(3, "m").mark("mark");
        c.fails("ab$3", 0, -55, 2);
        return c.feedBytes(Check.bytes(text));
    }

    private static void unchanged(String what, Class<? extends RuntimeException> due, String text, Twins.Refused call) {
        for (int mode = 0; mode < 4; mode++) {
            int made = mode;
            Twins.unchanged(what, due, () -> full(made, text), call);
            Twins.unchanged(what + " behind a code", due, () -> failed(made, text), call);
            Twins.unchanged(what + " on a new object", due, () -> new Check(made), call);
        }
    }

    private static void emptied(String what, int mode, String text, Twins.Refused call) {
        Twins.emptied(what, UNSUPPORTED, () -> full(mode, text), call);
        Twins.emptied(what + " behind a code", UNSUPPORTED, () -> failed(mode, text), call);
        Twins.emptied(what + " on a new object", UNSUPPORTED, () -> new Check(mode).groups(2).feedBytes(Check.bytes(text)), call);
    }

    // More calls than an object is promised for, as THE TEXT can't be filled with less.
    private static void feedWithoutRoomChangesNothing() {
        for (int length = 65517; length <= 65536; length++) {
            String text = "t".repeat(length);
            Twins.unchanged("feed behind " + length, IllegalStateException.class, () -> full(1, text), w -> w.feed(1, 2, 3, 4, 5));
        }
    }

    private static void endChangesNothing() {
        unchanged("end(-1)", ARGUMENT, "text", w -> w.end(-1));
        unchanged("end(5)", ARGUMENT, "text", w -> w.end(5));
        unchanged("end(20), as many as were fed", ARGUMENT, "text", w -> w.end(20));
        for (int n : FAR) {
            unchanged("end(" + n + ")", ARGUMENT, "text", w -> w.end(n));
        }
    }

    private static void groupsChangesNothing() {
        unchanged("groups(-1)", ARGUMENT, "text", w -> w.groups(-1));
        unchanged("groups(100)", ARGUMENT, "text", w -> w.groups(100));
        for (int n : FAR) {
            unchanged("groups(" + n + ")", ARGUMENT, "text", w -> w.groups(n));
        }
    }

    private static void setOfNoGroupChangesNothing() {
        unchanged("set(-1)", ARGUMENT, "text", w -> w.set(-1));
        unchanged("set(4)", ARGUMENT, "text", w -> w.set(4));
        unchanged("set(100)", ARGUMENT, "text", w -> w.set(100));
        for (int n : FAR) {
            unchanged("set(" + n + ")", ARGUMENT, "text", w -> w.set(n));
        }
    }

    private static void setOfWhatIsNotUtf8EmptiesTheText() {
        for (int group = 0; group <= 2; group++) {
            int n = group;
            emptied("set of ff", 1, "\u00ff", w -> w.set(n));
            emptied("set of what is cut short", 3, "good\u00c3", w -> w.set(n));
        }
    }

    private static void unsetChangesNothing() {
        unchanged("unset(-1)", ARGUMENT, "text", w -> w.unset(-1));
        unchanged("unset(4)", ARGUMENT, "text", w -> w.unset(4));
        unchanged("unset(100)", ARGUMENT, "text", w -> w.unset(100));
        for (int n : FAR) {
            unchanged("unset(" + n + ")", ARGUMENT, "text", w -> w.unset(n));
        }
    }

    private static void nameOfNoGroupChangesNothing() {
        unchanged("name(0)", ARGUMENT, "new", w -> w.name(0));
        unchanged("name(-1)", ARGUMENT, "new", w -> w.name(-1));
        unchanged("name(4)", ARGUMENT, "new", w -> w.name(4));
        for (int n : FAR) {
            unchanged("name(" + n + ")", ARGUMENT, "new", w -> w.name(n));
        }
    }

    private static void nameOfWhatIsNoNameEmptiesTheText() {
        String[] bad = {"", "1", "1a", "new ", "n$", "a".repeat(33), "\u00e9", "\u00c3\u00a9", "\u0000"};
        for (String text : bad) {
            for (int mode = 0; mode < 4; mode++) {
                emptied("name " + text, mode, text, w -> w.name(1));
                emptied("name " + text, mode, text, w -> w.name(2));
            }
        }
    }

    private static void markOfWhatIsNotUtf8EmptiesTheText() {
        emptied("mark of ff", 1, "\u00ff", w -> w.mark());
        emptied("mark of what is cut short", 3, "good\u00e2\u0082", w -> w.mark());
    }

    private static void writeWithOtherOptionsChangesNothing() {
        int[] bad = {1, 256, 511, 513, 4097, 7681, 8192, 8192 + 512, -1, -512};
        for (int options : bad) {
            unchanged("write(" + options + ")", ARGUMENT, "$1", w -> w.write(options));
            unchanged("write(" + options + ") of what has a code", ARGUMENT, "$9", w -> w.write(options));
        }
        for (int options : FAR) {
            unchanged("write(" + options + ")", ARGUMENT, "$1", w -> w.write(options | 1));
        }
    }

    private static void resultChangesNothing() {
        unchanged("result(-1)", IndexOutOfBoundsException.class, "text", w -> w.result(-1));
        unchanged("result(5)", IndexOutOfBoundsException.class, "text", w -> w.result(5));
        for (int i : FAR) {
            unchanged("result(" + i + ")", IndexOutOfBoundsException.class, "text", w -> w.result(i));
        }
    }

    private static void faultChangesNothing() {
        unchanged("fault(-1)", ARGUMENT, "text", w -> w.fault(-1));
        unchanged("fault(2)", ARGUMENT, "text", w -> w.fault(2));
        for (int what : FAR) {
            unchanged("fault(" + what + ")", ARGUMENT, "text", w -> w.fault(what));
        }
    }

    private static void argumentsComeFirst() {
        Twins.unchanged("set(4) of ff", ARGUMENT, () -> full(1, "\u00ff"), w -> w.set(4));
        Twins.unchanged("name(0) of what is no name", ARGUMENT, () -> full(0, "1 2"), w -> w.name(0));
        Twins.unchanged("name(4) of nothing", ARGUMENT, () -> full(0, ""), w -> w.name(4));
        Twins.unchanged("write(1) of ff", ARGUMENT, () -> full(1, "ab\u00ff"), w -> w.write(1));
    }
}
