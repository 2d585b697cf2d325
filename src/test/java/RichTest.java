/** Promises 9 and 13: write with RICH. */
public final class RichTest {
    private static final int RICH = Check.RICH;

    public static void main(String[] args) {
        defaultsAreWritten();
        choicesAreWritten();
        partsEnd();
        unwrittenPartsAreNotLookedInto();
        nestingHasALimit();
        faultsComeInOrder();
        escapedSigns();
        escapedCharacters();
        controlCharacters();
        numberedCharacters();
        badEscapes();
        quotes();
        resultHasALimit();
        Check.finish();
    }

    /** Groups 0 to 3, 1 being set, 2 and 3 not; named a, b, c. */
    private static Check three() {
        return new Check(0).groups(3).set(1, "One").name(1, "a").name(2, "b").name(3, "c").mark("mk");
    }

    private static void defaultsAreWritten() {
        Check c = three();
        c.writes("${1:-no}|${2:-no}|${a:-no}|${b:-no}", RICH, "One|no|One|no");
        c.writes("<${2:-}>", RICH, "<>").writes("${2:-a:b}", RICH, "a:b").writes("${2:-$1$$${1}$*MARK}", RICH, "One$Onemk");
        c.writes("${2:-:+x}", RICH, ":+x").writes("${2:-no}", RICH | Check.EMPTY, "no");
        c.fails("${2:-$3}", RICH, -55, 5).fails("${2:-x$}", RICH, -35, 6).fails("${2:-x\\q}", RICH, -57, 6);
        c.fails("${9:-x}", RICH, -49, 0).writes("${9:-x}${z:-y}", RICH | Check.UNKNOWN, "xy");
    }

    private static void choicesAreWritten() {
        Check c = three();
        c.writes("${1:+yes:no}|${2:+yes:no}|${a:+yes:no}|${b:+yes:no}", RICH, "yes|no|yes|no");
        c.writes("<${1:+yes}${2:+yes}>", RICH, "<yes>").writes("<${1:+:no}${2:+yes:}${1:+}${2:+:}>", RICH, "<>");
        c.writes("${2:+a:b:c}", RICH, "b:c").writes("${1:+a:b:c}", RICH, "a").writes("${1:+$1-${a}:x}", RICH, "One-One");
        c.fails("${9:+x:y}", RICH, -49, 0).writes("${9:+x:y}${z:+x}", RICH | Check.UNKNOWN, "y");
        c.fails("${1:+$2}", RICH, -55, 5).fails("${2:+x:$9}", RICH, -49, 7);
    }

    private static void partsEnd() {
        Check c = three();
        c.writes("${1:+a\\:b:c}", RICH, "a:b").writes("${2:-a\\}b}c", RICH, "a}bc").writes("${2:-a\\\\}b", RICH, "a\\b");
        c.writes("${1:+${2:-x:y}:z}", RICH, "x:y").writes("${2:+a:${2:+b:c}}", RICH, "c").writes("${2:+a:\\}}", RICH, "}");
        c.writes("${1:+[${2:-\\}x}]:no}", RICH, "[}x]").writes("${2:-{a}b}", RICH, "{ab}").writes("${2:-\\${a}}", RICH, "${a}");
        c.writes("${1:+\\Q}\\E:y}", RICH, ":y}").writes("${1:+\\Q:\\E:y}", RICH, "").fails("${2:-\\x{41}}", RICH, -57, 5);
        // What is behind a backslash ends no part, but \c takes the next backslash away from it.
        c.fails("${2:-\\c\\${1}}", RICH, -58, 8).fails("${2:-\\c\\${2:-x}}", RICH, -58, 8);
        c.fails("${2:-\\c}}", RICH, -57, 5).fails("${2:-a\\}", RICH, -58, 0).fails("${2:-${2:-x}", RICH, -58, 0);
        String[] open = {"${1:-", "${1:+", "${1:+a:", "${1:+a:b", "${1:x}", "${1:", "${1:=x}", "${a:?}", "${1:+a:${2}", "${1:-\\"};
        for (String text : open) {
            three().fails(text, RICH, -58, 0).fails("$1" + text, RICH | Check.UNKNOWN, -58, 2);
        }
    }

    private static void unwrittenPartsAreNotLookedInto() {
        Check c = three();
        c.writes("${1:-$9\\q$}", RICH, "One").writes("${2:+$9\\q$:ok}", RICH, "ok").writes("${1:+ok:$9\\q$ ${}}", RICH, "ok");
        c.writes("${1:-" + "${1:-".repeat(30) + "}".repeat(30) + "}", RICH, "One");
        c.writes("${1:-\\U}x", RICH, "Onex").writes("${2:+\\U}x", RICH, "x");
    }

    private static void nestingHasALimit() {
        for (int deep = 1; deep <= 23; deep++) {
            Check c = three();
            String nested = "${2:-".repeat(deep) + "x" + "}".repeat(deep);
            String choices = "${1:+".repeat(deep) + "x" + ":no}".repeat(deep);
            String others = "${2:+:".repeat(deep) + "x" + "}".repeat(deep);
            if (deep <= 20) {
                c.writes(nested, RICH, "x").writes(choices, RICH, "x").writes(others, RICH, "x");
            } else {
                c.fails(nested, RICH, -35, 100).fails(choices, RICH, -35, 100).fails(others, RICH, -35, 120);
            }
        }
        Check c = three();
        c.writes("${2:-".repeat(20) + "${1}" + "}".repeat(20), RICH, "One");
        c.fails("${2:-".repeat(20) + "${9:-x}" + "}".repeat(20), RICH, -35, 100);
        c.writes("${2:-".repeat(20) + "x" + "}".repeat(20) + "${2:-".repeat(20) + "y" + "}".repeat(20), RICH, "xy");
    }

    private static void faultsComeInOrder() {
        Check c = three();
        c.fails("${9:-x", RICH, -58, 0).fails("${9:-${8:-x}}", RICH, -49, 0).fails("${2:-${8:-x}}", RICH, -49, 5);
        c.fails("\\q$9", RICH, -57, 0).fails("$9\\q", RICH, -49, 0).fails("$1\\U${2:-$}$9", RICH, -35, 9);
        c.fails("${9:+" + "${2:-".repeat(25) + "}".repeat(25) + "}", RICH, -49, 0);
    }

    private static void escapedSigns() {
        StringBuilder text = new StringBuilder();
        StringBuilder due = new StringBuilder();
        for (char c = 0; c <= 0xFF; c++) {
            boolean letterOrDigit = c >= '0' && c <= '9' || c >= 'A' && c <= 'Z' || c >= 'a' && c <= 'z';
            if (!letterOrDigit) {
                text.append('\\').append(c);
                due.append(c);
            }
        }
        for (int mode = 0; mode < 4; mode++) {
            Check.same("signs behind a backslash", new Check(mode).feedText(text.toString()).writer.write(RICH),
                new Check(mode).feedText(due.toString()).writer.count(0));
            new Check(mode).writes(text.substring(0, 100), RICH, due.substring(0, 50));
            new Check(mode).writes(text.substring(200), RICH, due.substring(100));
        }
        String wide = new String(Character.toChars(0x1F600));
        new Check(1).writes("\\" + "\u20ac" + "\\" + wide + "x", RICH, "\u20ac" + wide + "x");
    }

    private static void escapedCharacters() {
        three().writes("\\a\\e\\f\\n\\r\\t", RICH, "\u0007\u001b\f\n\r\t");
        three().writes("\\a1\\eb\\fF\\nn\\rr\\tt", RICH, "\u00071\u001bb\fF\nn\rr\tt");
    }

    private static void controlCharacters() {
        for (char x = 0x20; x <= 0x7E; x++) {
            char upper = x >= 'a' && x <= 'z' ? (char) (x - 0x20) : x;
            new Check(x & 3).writes("\\c" + x + "1", RICH, (char) (upper ^ 0x40) + "1");
        }
        String[] bad = {"\\c", "\\c\u001f", "\\c\u007f", "\\c\u00e9", "\\c\n", "\\c\u0000"};
        for (String text : bad) {
            new Check(0).fails(text, RICH, -57, 0).fails("ab" + text, RICH, -57, 2);
            new Check(1).fails(text, RICH, -57, 0);
        }
    }

    private static void numberedCharacters() {
        Check c = three();
        c.writes("\\0|\\01|\\012|\\0123|\\08|\\0779", RICH, "\0|\1|\n|\n3|\0" + "8|?9");
        c.writes("\\x|\\x4|\\x41|\\x411|\\xg|\\xFf\\xfF", RICH, "\0|\4|A|A1|\0g|\u00ff\u00ff");
        c.writes("\\x{41}\\x{0041}\\x{00000041}\\x{fF}\\x{0}", RICH, "AAA\u00ff\0").writes("\\o{101}\\o{00000101}\\o{377}\\o{0}", RICH, "AA\u00ff\0");
        c.writes("\\xA|\\xa|\\xAf|\\xG|\\x{A}|\\x{F0}", RICH, "\n|\n|\u00af|\0G|\n|\u00f0");
        Check u = new Check(1);
        u.writes("\\xe9\\x{e9}\\o{351}\\x{7ff}\\x{800}\\x{d7ff}\\x{e000}", RICH, "\u00e9\u00e9\u00e9\u07ff\u0800\ud7ff\ue000");
        u.writes("\\x{ffff}\\x{10000}\\x{10ffff}\\o{4177777}", RICH, "\uffff\uD800\uDC00\uDBFF\uDFFF\uDBFF\uDFFF");
    }

    private static void badEscapes() {
        String[] bad = {
            "\\", "\\1", "\\9", "\\q", "\\N", "\\A", "\\Z", "\\b", "\\d", "\\g", "\\k", "\\p", "\\s", "\\w", "\\z", "\\o", "\\o1",
            "\\o{", "\\o{}", "\\o{8}", "\\o{1", "\\o{000000101}", "\\x{", "\\x{}", "\\x{g}", "\\x{41", "\\x{ 41}", "\\x{41 }",
            "\\x{000000041}", "\\x{ffffffff}", "\\x{80000000}", "\\x{110000}", "\\o{77777777}", "\\x{-1}",
        };
        for (String text : bad) {
            three().fails(text, RICH, -57, 0).fails("$1\\n" + text, RICH, -57, 4);
            new Check(3).fails("\u00e9" + text, RICH, -57, 2);
        }
        String[] beyondBytes = {"\\x{100}", "\\o{400}", "\\x{00000100}", "\\x{d7ff}"};
        for (String text : beyondBytes) {
            new Check(0).fails(text, RICH, -57, 0);
            new Check(2).fails(text, RICH, -57, 0);
            Check.same("with UTF", new Check(1).feedText(text).writer.write(RICH) > 0 ? 1 : 0, 1);
        }
        String[] surrogates = {"\\x{d800}", "\\x{dbff}", "\\x{dfff}", "\\o{154000}"};
        for (String text : surrogates) {
            new Check(1).fails(text, RICH, -57, 0);
        }
    }

    private static void quotes() {
        Check c = three();
        c.writes("\\Q$1\\n${}\\E$1", RICH, "$1\\n${}One").writes("a\\Q$1", RICH, "a$1").writes("\\Q\\E\\Q", RICH, "");
        c.writes("\\Q\\\\E|\\Q\\Q\\E|", RICH, "\\|\\Q|").writes("\\E\\Ex\\E", RICH, "x").writes("\\Qab\\", RICH, "ab\\");
        c.writes("${2:-\\Qa$}$1", RICH, "a$One").writes("${2:-\\Q${x}\\E$1}", RICH, "${x}One");
        new Check(1).writes("\\Q\u20ac$\\E\u20ac", RICH, "\u20ac$\u20ac");
    }

    private static void resultHasALimit() {
        Check c = new Check(0).groups(1).set(1, "x".repeat(4096));
        Check.same("all that has room", c.feedText("$1".repeat(64)).writer.write(0), 262144);
        Check.same("the last byte", c.writer.result(262143), 'x');
        Check.throwsException("behind the last", IndexOutOfBoundsException.class, () -> c.writer.result(262144));
        c.fails("$1".repeat(64) + "y", 0, -48, -1).fails("$1".repeat(65), 0, -48, -1);
        c.fails("$1".repeat(65) + "$", 0, -48, -1).fails("$9" + "$1".repeat(65), 0, -49, 0).writes("z", 0, "z");
        Check u = new Check(1).groups(1).set(1, "x".repeat(4096));
        Check.same("a character that just fits", u.feedText("$1".repeat(63) + "x".repeat(4094) + "\u00e9").writer.write(0), 262144);
        Check v = new Check(1).groups(1).set(1, "x".repeat(4096));
        v.fails("$1".repeat(63) + "x".repeat(4095) + "\u00e9", 0, -48, -1);
    }
}
