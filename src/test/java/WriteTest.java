import java.nio.charset.StandardCharsets;

/** Promises 9, 10 and 11: write without RICH, result and fault. */
public final class WriteTest {
    private static final String NAME_32 = "a".repeat(32);

    public static void main(String[] args) {
        plainIsAsItIs();
        dollarsAreWritten();
        numbersTakeAllDigits();
        namesTakeThirtyTwo();
        marksAreWritten();
        unknownAndUnsetGroups();
        badDollars();
        braceMustBeThere();
        richIsNotThereUnasked();
        textMustBeUtf8();
        otherOptionsAreRefused();
        resultTellsBytes();
        faultTellsTheLastWrite();
        Check.finish();
    }

    private static Check three() {
        return new Check(0).groups(3).set(0, "all").set(1, "Hello").set(2, "World").name(2, "who").mark("M");
    }

    private static void plainIsAsItIs() {
        int[] others = {0, Check.RICH, Check.EMPTY, Check.UNKNOWN, Check.RICH | Check.EMPTY | Check.UNKNOWN};
        for (int other : others) {
            three().writes("a$1\\U$$ ${ $9 \\", Check.PLAIN | other, "a$1\\U$$ ${ $9 \\");
        }
        three().writes("", Check.PLAIN, "");
    }

    private static void dollarsAreWritten() {
        Check c = three();
        c.writes("", 0, "").writes("plain } : { text", 0, "plain } : { text");
        c.writes("$$", 0, "$").writes("$$$$1", 0, "$$1").writes("$$$1", 0, "$Hello").writes("$${1}", 0, "${1}");
        c.writes("$2, ${1}! $who ${who}.", 0, "World, Hello! World World.");
        c.writes("$0$1x$1_", 0, "allHelloxHello_").writes("$who-", 0, "World-").fails("$whox", 0, -49, 0);
        three().set(1, "a$2\\n${").writes("$1", 0, "a$2\\n${");
    }

    private static void numbersTakeAllDigits() {
        Check c = three();
        c.writes("$0001", 0, "Hello").writes("${00}", 0, "all").fails("$10", 0, -49, 0).fails("x${12}", 0, -49, 1);
        c.writes("${1}0", 0, "Hello0");
        String[] large = {"65535", "65536", "65537", "4294967297", "18446744073709551617", "9".repeat(40)};
        for (String n : large) {
            c.fails("$" + n, 0, -49, 0).writes("<$" + n + ">", Check.EMPTY | Check.UNKNOWN, "<>");
        }
    }

    private static void namesTakeThirtyTwo() {
        Check c = new Check(0).groups(2).name(1, NAME_32).set(1, "Q").name(2, "_9").set(2, "R");
        c.writes("$" + NAME_32, 0, "Q").writes("${" + NAME_32 + "}", 0, "Q");
        c.writes("$" + NAME_32 + "a1", 0, "Qa1").fails("${" + NAME_32 + "a}", 0, -58, 0);
        c.fails("x${" + NAME_32 + "1}", Check.RICH, -58, 1);
        c.writes("$_9.$_9-${_9}", 0, "R.R-R").fails("${_9 }", 0, -58, 0).fails("$\u00e9", 0, -35, 0);
        c.writes("$_9\u00e9", 0, "R\u00e9");
    }

    private static void marksAreWritten() {
        Check c = three();
        c.writes("<${*MARK}$*MARK>", 0, "<MM>").writes("$*MARK1 $*MARKED", 0, "M1 MED");
        c.fails("$*", 0, -35, 0).fails("a$*MAR", 0, -35, 1).fails("$*mark", 0, -35, 0).fails("${*}", 0, -35, 0);
        c.fails("${*MAR}", 0, -35, 0).fails("${*MARK", 0, -58, 0).fails("${*MARKS}", 0, -58, 0);
        c.fails("${*MARK:-x}", Check.RICH, -58, 0).fails("${*", 0, -35, 0);
    }

    private static void unknownAndUnsetGroups() {
        Check c = three().name(3, "three");
        c.fails("$3", 0, -55, 0).fails("a${3}", 0, -55, 1).fails("ab$three", 0, -55, 2);
        c.fails("$4", 0, -49, 0).fails("a${4}", 0, -49, 1).fails("ab$four", 0, -49, 2);
        c.writes("<$3${3}$three>", Check.EMPTY, "<>").fails("$4", Check.EMPTY, -49, 0);
        c.fails("$four", Check.EMPTY, -49, 0);
        Check d = three();
        d.fails("$4", Check.UNKNOWN, -55, 0).fails(" ${four}", Check.UNKNOWN, -55, 1);
        d.fails("$3", Check.UNKNOWN, -55, 0).writes("<$3$4${four}>", Check.UNKNOWN | Check.EMPTY, "<>");
        d.fails("$1$3$4", 0, -55, 2).fails("$1$4$3", 0, -49, 2).fails("${1}$", 0, -35, 4);
    }

    private static void badDollars() {
        String[] bad = {"$", "$ ", "$}", "$-", "$\\", "$:", "${", "${}", "${$}", "${-1}", "${ 1}", "${:-x}", "$\u00e9", "${\u00e9}"};
        for (String text : bad) {
            three().fails(text, 0, -35, 0).fails("$1$$" + text, Check.EMPTY | Check.UNKNOWN, -35, 4).fails(text, Check.RICH, -35, 0);
        }
    }

    private static void braceMustBeThere() {
        String[] bad = {"${1", "${12", "${who", "${1 }", "${1a}", "${who-}", "${who$1}", "${1{}", "${9", "${nobody", "${1:}"};
        for (String text : bad) {
            three().fails(text, 0, -58, 0).fails("$1 " + text, Check.RICH | Check.UNKNOWN, -58, 3);
        }
    }

    private static void richIsNotThereUnasked() {
        Check c = three();
        c.fails("${3:-x}", 0, -58, 0).fails("${1:+x:y}", Check.EMPTY | Check.UNKNOWN, -58, 0).fails("${9:-x}", 0, -58, 0);
        c.writes("\\", 0, "\\").writes("\\U\\n\\q\\$1\\Q$$\\E", 0, "\\U\\n\\q\\Hello\\Q$\\E");
    }

    private static void textMustBeUtf8() {
        Check c = new Check(1);
        c.failsBytes(bytes("\u00ff"), 0, -3, 0).failsBytes(bytes("ab\u00c3"), 0, -3, 2).failsBytes(bytes("\u00c3\u00a9\u00a9"), 0, -3, 2);
        c.failsBytes(bytes("$\u00ff"), 0, -3, 1).failsBytes(bytes("x\u00ed\u00a0\u0080"), Check.PLAIN, -3, 1);
        c.failsBytes(bytes("\u00e2\u0082\u00ac\u00f4\u0090\u0080\u0080"), Check.RICH, -3, 3);
        c.writes("\u00e9\u20ac\uD83D\uDE00", 0, "\u00e9\u20ac\uD83D\uDE00");
        Check.same("without UTF", new Check(2).feedBytes(bytes("\u00ff\u0080")).writer.write(0), 2);
    }

    private static byte[] bytes(String text) {
        return text.getBytes(StandardCharsets.ISO_8859_1);
    }

    private static void otherOptionsAreRefused() {
        Check c = three();
        c.fails("$9", 0, -49, 0).writes("$1", 0, "Hello");
        c.feedText("$2");
        int[] bad = {1, 2, 256, 511, 513, 8192, 4097, -1, Integer.MIN_VALUE, Integer.MAX_VALUE};
        for (int options : bad) {
            Check.throwsException("write(" + options + ")", IllegalArgumentException.class, () -> c.writer.write(options));
            Check.same("the text stays", c.writer.count(0), 2);
            Check.same("the result stays", c.writer.count(1), 5);
            Check.same("the fault stays", c.writer.fault(0), 0);
        }
        Check.same("all options", c.writer.write(7680), 2);
    }

    private static void resultTellsBytes() {
        Check c = new Check(0);
        c.writes("a\u00ff\u0080", 0, "a\u00ff\u0080");
        Check.same("result(1)", c.writer.result(1), 255);
        Check.same("result(2)", c.writer.result(2), 128);
        int[] bad = {-1, 3, 16, Integer.MAX_VALUE, Integer.MIN_VALUE};
        for (int i : bad) {
            Check.throwsException("result(" + i + ")", IndexOutOfBoundsException.class, () -> c.writer.result(i));
        }
        c.writes("b", 0, "b");
        Check.throwsException("result(1)", IndexOutOfBoundsException.class, () -> c.writer.result(1));
    }

    private static void faultTellsTheLastWrite() {
        Check c = three();
        c.fails("ab$9", 0, -49, 2);
        c.feedText("x").set(1, "y").groups(2);
        Check.same("fault(0) stays", c.writer.fault(0), -49);
        Check.same("fault(1) stays", c.writer.fault(1), 2);
        c.feedText("$1");
        Check.throwsException("write(1)", IllegalArgumentException.class, () -> c.writer.write(1));
        Check.same("fault(0) stays when write throws", c.writer.fault(0), -49);
        c.writer.end(0);
        c.writes("x", 0, "x");
        int[] bad = {-1, 2, Integer.MAX_VALUE, Integer.MIN_VALUE};
        for (int what : bad) {
            Check.throwsException("fault(" + what + ")", IllegalArgumentException.class, () -> c.writer.fault(what));
        }
    }
}
