/** The edges that the document names of groups, names and the mark: the promises 4 to 8. */
public final class EdgeHeldTest {
    private static final String LONGEST = "_" + "aZ9".repeat(10) + "z";
    private static final int[] FAR = {Integer.MAX_VALUE, Integer.MIN_VALUE, 1 << 8, 1 << 16, -100};

    public static void main(String[] args) {
        leastAndMostGroups();
        groupsBeyondBothEnds();
        groupsUnsetsAll();
        groupsTakesNamesAway();
        groupsEmptiesTheMark();
        groupsLeavesTextResultAndFault();
        setOfTheFirstAndTheLast();
        setBeyondBothEnds();
        setOfNothingIsSet();
        setAnswersCharacters();
        setAgainReplaces();
        setRefusedLeavesTheGroup();
        unsetOfTheFirstAndTheLast();
        unsetBeyondBothEnds();
        unsetAgain();
        nameOfTheFirstAndTheLast();
        nameBeyondBothEnds();
        nameGivenAgainCountsOnce();
        nameOfSeveral();
        severalNamesOfOne();
        nameHasOneToThirtyTwo();
        nameHasLettersDigitsAndUnderscore();
        nameBeginsWithNoDigit();
        nameRefusedIsNotCounted();
        markOfNothing();
        markAnswersCharacters();
        markAgainReplaces();
        markRefusedLeavesTheMark();
        Check.finish();
    }


    private static void refused(String what, Check.Call call) {
        Check.throwsException(what, IllegalArgumentException.class, call);
    }

    // "There are GROUPS 0 .. n", n is "0 .. 99"
    private static void leastAndMostGroups() {
        for (int n = 0; n <= 99; n++) {
            Check c = new Check(0).groups(n);
            Check.same("greatest of groups(" + n + ")", c.writer.count(2), n);
            c.fails("$" + n, 0, -55, 0).fails("$" + (n + 1), 0, -49, 0);
            Check.same("set", c.feedText("s").writer.set(n), 1);
            c.writes("$" + n, 0, "s");
        }
    }

    private static void groupsBeyondBothEnds() {
        Check c = new Check(0).groups(3);
        refused("groups(-1)", () -> c.writer.groups(-1));
        refused("groups(100)", () -> c.writer.groups(100));
        for (int n : FAR) {
            refused("groups(" + n + ")", () -> c.writer.groups(n));
        }
        Check.same("the greatest stays", c.writer.count(2), 3);
    }

    // "all unset"
    private static void groupsUnsetsAll() {
        Check c = new Check(0).groups(99).set(0, "a").set(50, "b").set(99, "c");
        c.groups(99).fails("$0", 0, -55, 0).fails("$50", 0, -55, 0).fails("$99", 0, -55, 0);
        Check d = new Check(0).groups(99).set(99, "c").groups(5).groups(99);
        d.fails("$99", 0, -55, 0);
    }

    // "there are no NAMES"
    private static void groupsTakesNamesAway() {
        Check c = new Check(0).groups(2).set(1, "a").name(1, "n").name(2, "n").name(2, LONGEST);
        Check.same("names before", c.writer.count(3), 3);
        c.groups(2).set(1, "a").set(2, "b");
        Check.same("names behind", c.writer.count(3), 0);
        c.fails("$n", 0, -49, 0).fails("${" + LONGEST + "}", 0, -49, 0);
        Check.same("how often since groups", c.feedText("n").writer.name(2), 1);
        c.writes("$n", 0, "b");
    }

    // "THE MARK is empty"
    private static void groupsEmptiesTheMark() {
        new Check(0).mark("mark").groups(0).writes("<$*MARK>", 0, "<>");
    }

    private static void groupsLeavesTextResultAndFault() {
        Check c = new Check(0).set(0, "abc");
        c.fails("x$7", 0, -49, 1).feedText("$0").groups(1);
        Check.same("text", c.writer.count(0), 2);
        Check.same("fault(0)", c.writer.fault(0), -49);
        Check.same("fault(1)", c.writer.fault(1), 1);
        c.writer.end(0);
        c.set(0, "abc").writes("$0", 0, "abc").groups(0);
        Check.sameText("result", c.resultAsBytes(), "abc");
    }

    // "IllegalArgumentException: no such GROUP."
    private static void setOfTheFirstAndTheLast() {
        int[] greatest = {0, 1, 9, 98, 99};
        for (int n : greatest) {
            Check c = new Check(0).groups(n);
            Check.same("set(0)", c.feedText("first").writer.set(0), 5);
            Check.same("set(" + n + ")", c.feedText("last").writer.set(n), 4);
            c.writes("$" + n, 0, "last").writes("$0", 0, n == 0 ? "last" : "first");
        }
    }

    private static void setBeyondBothEnds() {
        Check c = new Check(0).groups(5).feedText("text");
        refused("set(-1)", () -> c.writer.set(-1));
        refused("set(6)", () -> c.writer.set(6));
        refused("set(99)", () -> c.writer.set(99));
        refused("set(100)", () -> c.writer.set(100));
        for (int n : FAR) {
            refused("set(" + n + ")", () -> c.writer.set(n));
        }
        Check.same("the text stays", c.writer.count(0), 4);
        Check d = new Check(0).groups(5).groups(2);
        refused("set(3), a group of before", () -> d.writer.set(3));
    }

    private static void setOfNothingIsSet() {
        Check c = new Check(0).groups(1);
        Check.same("set of nothing", c.writer.set(1), 0);
        c.writes("<$1>", 0, "<>").writes("${1:+set:unset}${1:-none}", Check.RICH, "set");
    }

    // "how many CHARACTERS"
    private static void setAnswersCharacters() {
        String text = "a\u00df\u07ff\u0800\uffff" + new String(Character.toChars(0x10000)) + new String(Character.toChars(0x10FFFF));
        Check.same("with UTF", new Check(1).feedText(text).writer.set(0), 7);
        Check.same("with UTF and UCP", new Check(3).feedText(text).writer.set(0), 7);
        byte[] bytes = text.getBytes(java.nio.charset.StandardCharsets.UTF_8);
        Check.same("without UTF", new Check(0).feedBytes(bytes).writer.set(0), 19);
        Check.same("with UCP alone", new Check(2).feedBytes(bytes).writer.set(0), 19);
    }

    private static void setAgainReplaces() {
        Check c = new Check(0);
        String[] texts = {"a", "bb".repeat(40), "c", "", "dd".repeat(8), "e".repeat(17), "f".repeat(100)};
        for (String text : texts) {
            c.set(0, text).writes("$0", 0, text);
        }
        c.set(0, "kept").feedText("another").writer.end(0);
        c.writes("$0", 0, "kept");
    }

    // "it is not UTF-8 (nothing but THE TEXT changes)"
    private static void setRefusedLeavesTheGroup() {
        Check c = new Check(1).groups(2).set(1, "kept");
        c.feedBytes(Check.bytes("longer than that\u00ff"));
        Check.throwsException("set", UnsupportedOperationException.class, () -> c.writer.set(1));
        Check.same("the text is empty", c.writer.count(0), 0);
        c.feedBytes(Check.bytes("\u00ff"));
        Check.throwsException("set of an unset one", UnsupportedOperationException.class, () -> c.writer.set(2));
        c.writes("$1", 0, "kept").fails("$2", 0, -55, 0);
    }

    private static void unsetOfTheFirstAndTheLast() {
        Check c = new Check(0).groups(99).set(0, "a").set(99, "b").set(50, "c");
        c.writer.unset(0);
        c.writer.unset(99);
        c.fails("$0", 0, -55, 0).fails("$99", 0, -55, 0).writes("$50", 0, "c");
    }

    private static void unsetBeyondBothEnds() {
        Check c = new Check(0).groups(5).set(5, "a");
        refused("unset(-1)", () -> c.writer.unset(-1));
        refused("unset(6)", () -> c.writer.unset(6));
        refused("unset(100)", () -> c.writer.unset(100));
        for (int n : FAR) {
            refused("unset(" + n + ")", () -> c.writer.unset(n));
        }
        c.writes("$5", 0, "a");
    }

    private static void unsetAgain() {
        Check c = new Check(0).feedText("text");
        c.writer.unset(0);
        c.writer.unset(0);
        Check.same("unset takes no text", c.writer.count(0), 4);
        Check.same("set behind it", c.writer.set(0), 4);
        c.writes("$0", 0, "text");
    }

    // "n is not 1 or more, or no such GROUP"
    private static void nameOfTheFirstAndTheLast() {
        Check c = new Check(0).groups(99).set(1, "a").set(99, "b");
        Check.same("name(1)", c.feedText("first").writer.name(1), 1);
        Check.same("name(99)", c.feedText("last").writer.name(99), 2);
        c.writes("$first${last}", 0, "ab");
    }

    private static void nameBeyondBothEnds() {
        Check c = new Check(0).groups(5).feedText("n");
        refused("name(0)", () -> c.writer.name(0));
        refused("name(-1)", () -> c.writer.name(-1));
        refused("name(6)", () -> c.writer.name(6));
        refused("name(100)", () -> c.writer.name(100));
        for (int n : FAR) {
            refused("name(" + n + ")", () -> c.writer.name(n));
        }
        Check.same("the text stays", c.writer.count(0), 1);
        Check.same("no name was given", c.writer.count(3), 0);
        Check.same("name(5)", c.writer.name(5), 1);
    }

    // "(it may be so already) (that counts as one more)"
    private static void nameGivenAgainCountsOnce() {
        Check c = new Check(0).groups(2).set(1, "a");
        for (int i = 1; i <= 60; i++) {
            Check.same("given " + i + " times", c.feedText("n").writer.name(1), i);
            Check.same("count(3)", c.writer.count(3), i);
        }
        c.writes("$n", 0, "a");
    }

    // "one can be that of several", "of several with the NAME: the least that is set"
    private static void nameOfSeveral() {
        Check c = new Check(0).groups(99).name(99, "n").name(1, "n").name(50, "n").name(2, "other");
        c.fails("$n", 0, -55, 0).writes("<$n>", Check.EMPTY, "<>").set(2, "two").fails("${n}", 0, -55, 0);
        c.set(99, "last").writes("$n", 0, "last").set(50, "middle").writes("${n}", 0, "middle");
        c.set(1, "").writes("<$n>", 0, "<>");
        c.writer.unset(1);
        c.writes("$n", 0, "middle");
        c.writer.unset(50);
        c.writer.unset(99);
        c.writes("${n:-none}", Check.RICH, "none");
    }

    private static void severalNamesOfOne() {
        Check c = new Check(0).groups(1).set(1, "a").name(1, "n").name(1, "N").name(1, "nn").name(1, "_");
        c.writes("$n.$N.$nn.$_.", 0, "a.a.a.a.").fails("$nN", 0, -49, 0).fails("$NN", 0, -49, 0).fails("$__", 0, -49, 0);
    }

    private static void givesName(String text) {
        Check c = new Check(0).groups(1).set(1, "a");
        Check.same("name " + text, c.feedText(text).writer.name(1), 1);
        c.writes("${" + text + "}", 0, "a").writes("$" + text, 0, "a");
    }

    private static void givesNoName(String text) {
        for (int mode = 0; mode < 4; mode++) {
            Check c = new Check(mode).groups(1).feedBytes(Check.bytes(text));
            Check.throwsException("name " + text, UnsupportedOperationException.class, () -> c.writer.name(1));
            Check.same("the text is empty", c.writer.count(0), 0);
            Check.same("no name was given", c.writer.count(3), 0);
        }
    }

    // "1 to 32"
    private static void nameHasOneToThirtyTwo() {
        for (int length = 1; length <= 32; length++) {
            givesName("a".repeat(length));
        }
        givesName(LONGEST);
        int[] bad = {0, 33, 34, 40, 64, 65, 300};
        for (int length : bad) {
            givesNoName("a".repeat(length));
        }
    }

    // "ASCII letters, digits and _"
    private static void nameHasLettersDigitsAndUnderscore() {
        for (char c = 0; c <= 0xFF; c++) {
            boolean isGood = Check.isLetter(c) || Check.isDigit(c) || c == '_';
            String[] texts = {"a" + c, "a" + c + "b", "a".repeat(31) + c};
            for (String text : texts) {
                if (isGood) {
                    givesName(text);
                } else {
                    givesNoName(text);
                }
            }
        }
    }

    // "the first no digit"
    private static void nameBeginsWithNoDigit() {
        for (char c = 0; c <= 0xFF; c++) {
            boolean isGood = Check.isLetter(c) || c == '_';
            if (isGood) {
                givesName("" + c);
                givesName(c + "9");
            } else {
                givesNoName("" + c);
                givesNoName(c + "a");
            }
        }
    }

    private static void nameRefusedIsNotCounted() {
        Check c = new Check(0).groups(1).set(1, "a").name(1, "n");
        c.feedText("9");
        Check.throwsException("name 9", UnsupportedOperationException.class, () -> c.writer.name(1));
        Check.throwsException("name of nothing", UnsupportedOperationException.class, () -> c.writer.name(1));
        refused("name(2)", () -> c.writer.name(2));
        Check.same("how often", c.writer.count(3), 1);
        Check.same("the next", c.feedText("m").writer.name(1), 2);
    }

    private static void markOfNothing() {
        Check c = new Check(1).mark("mark");
        Check.same("mark of nothing", c.writer.mark(), 0);
        c.writes("<$*MARK${*MARK}>", 0, "<>");
    }

    private static void markAnswersCharacters() {
        String text = "\u00df\u0800" + new String(Character.toChars(0x10FFFF));
        Check.same("with UTF", new Check(1).feedText(text).writer.mark(), 3);
        byte[] bytes = text.getBytes(java.nio.charset.StandardCharsets.UTF_8);
        Check.same("without UTF", new Check(2).feedBytes(bytes).writer.mark(), 9);
    }

    private static void markAgainReplaces() {
        Check c = new Check(0);
        String[] texts = {"a", "b".repeat(50), "c", "", "d".repeat(17), "$1\\n${"};
        for (String text : texts) {
            c.mark(text).writes("$*MARK", Check.RICH, text);
        }
    }

    // "UnsupportedOperationException: it is not UTF-8."
    private static void markRefusedLeavesTheMark() {
        Check c = new Check(1).mark("kept").feedBytes(Check.bytes("\u00c3"));
        Check.throwsException("mark", UnsupportedOperationException.class, () -> c.writer.mark());
        Check.same("the text is empty", c.writer.count(0), 0);
        c.writes("$*MARK", 0, "kept");
    }
}
