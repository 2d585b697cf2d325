import java.nio.charset.StandardCharsets;

/** Promises 4 to 8: groups, set, unset, name and mark. */
public final class GroupsTest {
    private static final String LONGEST = "abcdefghijklmnopqrstuvwxyz_ABC09";

    public static void main(String[] args) {
        groupsStartsAnew();
        groupsRefusesOtherNumbers();
        setHoldsTheText();
        setRefusesNoSuchGroup();
        setAndMarkRefuseWhatIsNotUtf8();
        unsetLetsGo();
        namesAreGiven();
        nameOfSeveralIsTheLeastSet();
        nameRefusesOtherGroups();
        nameRefusesOtherTexts();
        markIsHeld();
        Check.finish();
    }

    private static void groupsStartsAnew() {
        Check c = new Check(0).groups(2).set(0, "a").set(1, "b").set(2, "c").name(1, "n").mark("m");
        c.writes("$0$1$2$n$*MARK", 0, "abcbm");
        c.feedText("left");
        c.groups(1);
        Check.same("the text stays", c.writer.count(0), 4);
        Check.same("the result stays", c.writer.count(1), 5);
        Check.same("greatest", c.writer.count(2), 1);
        Check.same("no names", c.writer.count(3), 0);
        c.writer.end(0);
        c.fails("$0", 0, -55, 0).fails("$1", 0, -55, 0).fails("$2", 0, -49, 0).fails("$n", 0, -49, 0);
        c.writes("$*MARK", 0, "");
        c.groups(99).set(99, "z").writes("$99", 0, "z").fails("$98", 0, -55, 0).fails("$100", 0, -49, 0);
        c.groups(0).groups(99).fails("$99", 0, -55, 0);
    }

    private static void groupsRefusesOtherNumbers() {
        Check c = new Check(0).groups(3).set(3, "x").name(3, "n").mark("m");
        int[] bad = {-1, 100, Integer.MAX_VALUE, Integer.MIN_VALUE};
        for (int n : bad) {
            Check.throwsException("groups(" + n + ")", IllegalArgumentException.class, () -> c.writer.groups(n));
            c.writes("$3$n$*MARK", 0, "xxm");
        }
    }

    private static void setHoldsTheText() {
        Check c = new Check(0).groups(2);
        c.feedText("h\u00e9y");
        Check.same("set, bytes", c.writer.set(1), 3);
        Check.same("the text is taken", c.writer.count(0), 0);
        Check.same("set of nothing", c.writer.set(2), 0);
        c.writes("<$1|$2>", 0, "<h\u00e9y|>");
        c.set(1, "another and longer text than before").writes("$1", 0, "another and longer text than before");
        c.set(1, "short").writes("$1", 0, "short");

        Check u = new Check(1);
        u.feedText("a\u00e9\u20ac\uD83D\uDE00");
        Check.same("bytes of four characters", u.writer.count(0), 10);
        Check.same("set, characters", u.writer.set(0), 4);
        u.writes("$0", 0, "a\u00e9\u20ac\uD83D\uDE00");
    }

    private static void setRefusesNoSuchGroup() {
        Check c = new Check(1).groups(1);
        c.feedBytes(new byte[] {-1});
        int[] bad = {-1, 2, 99, 100, Integer.MAX_VALUE, Integer.MIN_VALUE};
        for (int n : bad) {
            Check.throwsException("set(" + n + ")", IllegalArgumentException.class, () -> c.writer.set(n));
            Check.same("the text stays", c.writer.count(0), 1);
            Check.throwsException("unset(" + n + ")", IllegalArgumentException.class, () -> c.writer.unset(n));
            Check.throwsException("name(" + n + ")", IllegalArgumentException.class, () -> c.writer.name(n));
            Check.same("the text stays", c.writer.count(0), 1);
        }
    }

    private static void setAndMarkRefuseWhatIsNotUtf8() {
        String[] bad = {
            "\u0080", "\u00bf", "\u00c0\u0080", "\u00c1\u00bf", "\u00c3", "\u00c3(", "a\u00c3\u00a9\u00a9",
            "\u00e0\u0080\u0080", "\u00e0\u009f\u00bf", "\u00ed\u00a0\u0080", "\u00ed\u00bf\u00bf", "\u00e2\u0082",
            "\u00e2\u0082x", "\u00f0\u0080\u0080\u0080", "\u00f0\u008f\u00bf\u00bf", "\u00f4\u0090\u0080\u0080",
            "\u00f0\u009f\u0098", "\u00f5\u0080\u0080\u0080", "\u00fe", "\u00ff",
        };
        for (String text : bad) {
            Check c = new Check(1).set(0, "old").mark("mark");
            byte[] bytes = text.getBytes(StandardCharsets.ISO_8859_1);
            c.feedBytes(bytes);
            Check.throwsException("set", UnsupportedOperationException.class, () -> c.writer.set(0));
            Check.same("the text is taken", c.writer.count(0), 0);
            c.feedBytes(bytes);
            Check.throwsException("mark", UnsupportedOperationException.class, () -> c.writer.mark());
            Check.same("the text is taken", c.writer.count(0), 0);
            c.writes("$0$*MARK", 0, "oldmark");
            Check.same("without UTF", new Check(2).feedBytes(bytes).writer.set(0), bytes.length);
            Check.same("without UTF", new Check(0).feedBytes(bytes).writer.mark(), bytes.length);
        }
        int[] good = {0, 0x7F, 0x80, 0x7FF, 0x800, 0xD7FF, 0xE000, 0xFFFF, 0x10000, 0x10FFFF};
        for (int character : good) {
            Check c = new Check(1).feedText(new String(Character.toChars(character)));
            Check.same("set of " + character, c.writer.set(0), 1);
        }
    }

    private static void unsetLetsGo() {
        Check c = new Check(0).groups(1).set(0, "a").set(1, "b");
        c.feedText("kept");
        c.writer.unset(1);
        Check.same("the text stays", c.writer.count(0), 4);
        c.writer.end(0);
        c.fails("$1", 0, -55, 0).writes("$0", 0, "a");
        c.writer.unset(1);
        c.fails("$1", 0, -55, 0).set(1, "c").writes("$1", 0, "c");
    }

    private static void namesAreGiven() {
        Check c = new Check(0).groups(3).set(1, "one").set(2, "two");
        Check.same("first", c.feedText("a").writer.name(1), 1);
        Check.same("the text is taken", c.writer.count(0), 0);
        Check.same("the same again", c.feedText("a").writer.name(1), 2);
        Check.same("another of the group", c.feedText("_b9").writer.name(1), 3);
        Check.same("the longest", c.feedText(LONGEST).writer.name(2), 4);
        c.writes("$a ${a} $_b9 ${" + LONGEST + "}", 0, "one one one two");
        c.fails("$A", 0, -49, 0).fails("$aa", 0, -49, 0).fails("${_b}", 0, -49, 0);
    }

    private static void nameOfSeveralIsTheLeastSet() {
        Check c = new Check(0).groups(4).name(4, "n").name(2, "n").name(3, "n");
        c.fails("$n", 0, -55, 0).set(4, "four").writes("$n", 0, "four");
        c.set(3, "three").writes("$n", 0, "three").set(2, "two").writes("$n", 0, "two");
        c.writer.unset(2);
        c.writes("${n}", 0, "three");
    }

    private static void nameRefusesOtherGroups() {
        Check c = new Check(0).groups(2);
        c.feedText("a");
        int[] bad = {0, -1, 3, 100, Integer.MAX_VALUE, Integer.MIN_VALUE};
        for (int n : bad) {
            Check.throwsException("name(" + n + ")", IllegalArgumentException.class, () -> c.writer.name(n));
            Check.same("the text stays", c.writer.count(0), 1);
            Check.same("no name was given", c.writer.count(3), 0);
        }
    }

    private static void nameRefusesOtherTexts() {
        String[] bad = {"", "9", "9a", LONGEST + "x", "a-b", "a b", "\u00e9", "a\u00e9", "a$", "a\u0000", "@", "[", "`", "{"};
        for (String text : bad) {
            Check c = new Check(0).groups(1);
            c.feedText(text);
            Check.throwsException("name " + text, UnsupportedOperationException.class, () -> c.writer.name(1));
            Check.same("the text is taken", c.writer.count(0), 0);
            Check.same("no name was given", c.writer.count(3), 0);
        }
    }

    private static void markIsHeld() {
        Check c = new Check(1);
        c.feedText("\u20acu");
        Check.same("mark", c.writer.mark(), 2);
        Check.same("the text is taken", c.writer.count(0), 0);
        c.writes("$*MARK${*MARK}", 0, "\u20acu\u20acu");
        Check.same("mark of nothing", c.writer.mark(), 0);
        c.writes("<$*MARK>", 0, "<>");
        Check.same("mark, bytes", new Check(0).feedText("\u00e9\u00ff").writer.mark(), 2);
    }
}
