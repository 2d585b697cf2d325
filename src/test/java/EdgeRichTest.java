/** The edges that the document names of WRITING with RICH, and in promise 13. */
public final class EdgeRichTest {
    private static final int RICH = Check.RICH;

    public static void main(String[] args) {
        richAlone();
        signBehindTheColon();
        emptyParts();
        secondPartLeftOut();
        firstPartEndsAtBrace();
        firstPartEndsAtColon();
        secondPartEndsAtBrace();
        bracesInsideOfOthers();
        bracesBehindBackslashes();
        setUnsetAndMissing();
        unwrittenPartsHaveAnEndAlone();
        nestedTwentyDeep();
        nestedTwentyDeepOfAllForms();
        nestedDeeperWhereNothingIsWritten();
        missingBraceThenDepthThenGroup();
        everySignBehindABackslash();
        namedCharacters();
        controlCharacters();
        octalDigitsBehindZero();
        hexadecimalDigits();
        bracedDigitsOneToEight();
        bracedDigitsOfOtherKinds();
        charactersThatAreThere();
        surrogates();
        quotesWithoutAnEnd();
        quotesToTheEndOfThePart();
        quotesAreAsTheyAre();
        backslashAtTheEnd();
        partEndsWhereTheTextGoesOn();
        firstCodeMet();
        Check.finish();
    }

    /** Groups 0 to 2, of which 1 is set; the names are a and b. */
    private static Check three() {
        return new Check(0).groups(2).set(1, "One").name(1, "a").name(2, "b").mark("mk");
    }

    // "With RICH, also"
    private static void richAlone() {
        String[] forms = {"${1:-x}", "${2:-x}", "${1:+x}", "${1:+x:y}", "${a:-x}", "${b:+x:y}"};
        for (String text : forms) {
            for (int options = 0; options < Check.PLAIN; options += 1024) {
                three().fails(text, options, -58, 0);
            }
        }
        String[] slashes = {"\\", "\\q", "\\U", "\\x{", "\\Qa\\E", "\\1", "\\\\"};
        for (String text : slashes) {
            for (int options = 0; options < Check.PLAIN; options += 1024) {
                three().writes(text, options, text);
            }
        }
    }

    private static void signBehindTheColon() {
        for (char b = 0; b <= 0xFF; b++) {
            if (b == '-') {
                three().writes("${2:" + b + "x}", RICH, "x").writes("${a:" + b + "x}", RICH, "One");
            } else if (b == '+') {
                three().writes("${1:" + b + "x}", RICH, "x").writes("<${b:" + b + "x}>", RICH, "<>");
            } else {
                three().fails("${1:" + b + "x}", RICH, -58, 0).fails("$1${b:" + b + "x}", RICH, -58, 2).fails("${9:" + b + "x}", RICH, -58, 0);
            }
            if (b != '}' && b != ':' && !Check.isDigit(b)) {
                three().fails("${1" + b + "-x}", RICH, -58, 0).fails("a${9" + b, RICH, -58, 1);
            }
        }
        three().fails("${1:", RICH, -58, 0).fails("${1:}", RICH, -58, 0).fails("${1 :-x}", RICH, -58, 0).fails("${:-x}", RICH, -35, 0);
    }

    private static void emptyParts() {
        three().writes("<${2:-}>", RICH, "<>").writes("<${1:-}>", RICH, "<One>").writes("<${1:+}>", RICH, "<>").writes("<${2:+}>", RICH, "<>");
        three().writes("<${1:+:y}>", RICH, "<>").writes("<${2:+:y}>", RICH, "<y>").writes("<${1:+x:}>", RICH, "<x>").writes("<${2:+x:}>", RICH, "<>");
        three().writes("<${1:+:}${2:+:}>", RICH, "<>");
    }

    // "(:two may be left out: nothing)"
    private static void secondPartLeftOut() {
        three().writes("<${2:+x}>", RICH, "<>").writes("<${b:+x}>", RICH, "<>").writes("<${1:+x}>", RICH, "<x>");
        three().writes("<${9:+x}>", RICH | Check.UNKNOWN, "<>").writes("<${2:+\\}${1}}>", RICH, "<>");
    }

    // "one ends at the first }"
    private static void firstPartEndsAtBrace() {
        three().writes("${2:-x}}", RICH, "x}").writes("${2:-x:y}", RICH, "x:y").writes("${2:-{x}}", RICH, "{x}").writes("${2:-:}", RICH, ":");
        three().writes("${1:-x:}y}", RICH, "Oney}").writes("${1:+x}:y}", RICH, "x:y}").writes("${2:+x}:y}", RICH, ":y}");
        three().fails("${2:-x", RICH, -58, 0).fails("${1:-x", RICH, -58, 0).fails("${1:+x", RICH, -58, 0).fails("${2:-", RICH, -58, 0);
    }

    // "(in the second form: or :)"
    private static void firstPartEndsAtColon() {
        three().writes("${1:+x:y}", RICH, "x").writes("${1:+x:y:z}", RICH, "x").writes("${1:+x\\:y:z}", RICH, "x:y").writes("${1:+::}", RICH, "");
        three().fails("${1:+x:", RICH, -58, 0).fails("${1:+x:y", RICH, -58, 0).fails("${2:+:", RICH, -58, 0);
    }

    // "two at such a }"
    private static void secondPartEndsAtBrace() {
        three().writes("${2:+x:y}}", RICH, "y}").writes("${2:+x:y:z}", RICH, "y:z").writes("${2:+x:\\}}", RICH, "}").writes("${2:+::}", RICH, ":");
        three().writes("${2:+x:${1}}", RICH, "One").writes("${2:+x:${2:-}}}", RICH, "}").writes("${2:+x:{}}", RICH, "{}");
    }

    // "that is not inside of another ${ }"
    private static void bracesInsideOfOthers() {
        three().writes("${2:-<${1}>}.", RICH, "<One>.").writes("${1:+<${2:-:}>:no}.", RICH, "<:>.").writes("${1:+${1:+x:y}:no}.", RICH, "x.");
        three().writes("${2:-${1}${1}}.", RICH, "OneOne.").writes("${2:-${2:-${2:-x}y}z}.", RICH, "xyz.").writes("${1:+${*MARK}:no}", RICH, "mk");
        three().fails("${2:-${1}", RICH, -58, 0).fails("${2:-${2:-${1}}", RICH, -58, 0).fails("${1:+x:${1}", RICH, -58, 0);
        three().fails("${1:+${1:+x:y}:no", RICH, -58, 0).fails("${1:+${:", RICH, -58, 0);
    }

    // "or behind a \"
    private static void bracesBehindBackslashes() {
        three().writes("${2:-\\}}", RICH, "}").writes("${2:-\\\\}", RICH, "\\").writes("${2:-\\\\\\}}", RICH, "\\}").writes("${2:-\\\\}}", RICH, "\\}");
        three().writes("${1:+\\::y}", RICH, ":").writes("${1:+\\\\:y}", RICH, "\\").writes("${2:-\\${x}.", RICH, "${x.").writes("${2:-\\$}.", RICH, "$.");
        three().writes("${2:-${2:-\\}}x}", RICH, "}x").writes("${1:+a:\\}}", RICH, "a").writes("${1:-\\}}", RICH, "One");
        three().fails("${2:-\\}", RICH, -58, 0).fails("${2:-\\", RICH, -58, 0).fails("${1:+\\:", RICH, -58, 0).fails("${1:-\\}", RICH, -58, 0);
        // The end is looked for by these signs alone: neither a quote nor a number in braces hides it.
        three().writes("${1:+\\Q}\\E:y}", RICH, ":y}").writes("${2:-\\Q}\\E}", RICH, "}").fails("${2:-\\x{41}}", RICH, -57, 5);
    }

    private static void setUnsetAndMissing() {
        for (int options = RICH; options < Check.PLAIN; options += 1024) {
            three().writes("${1:-x}${a:-x}", options, "OneOne").writes("${2:-x}${b:-x}", options, "xx");
            three().writes("${1:+x:y}${a:+x:y}", options, "xx").writes("${2:+x:y}${b:+x:y}", options, "yy");
            String[] missing = {"${3:-x}", "${c:-x}", "${3:+y:x}", "${c:+y:x}", "${65536:-x}"};
            for (String text : missing) {
                if ((options & Check.UNKNOWN) != 0) {
                    three().writes(text, options, "x");
                } else {
                    three().fails("a" + text, options, -49, 1);
                }
            }
        }
        Check c = new Check(0).groups(1).set(1, "");
        c.writes("<${1:-x}>", RICH, "<>").writes("${1:+x:y}", RICH, "x");
    }

    // "A part that is not WRITTEN is looked at for its end alone."
    private static void unwrittenPartsHaveAnEndAlone() {
        String[] bad = {"$", "$9", "$2", "\\q", "\\x{", "${1", "${", "$*", "${9:-x}", "\\1", "\\c", "${2:-${"};
        for (String text : bad) {
            String closed = text + "}".repeat(text.split("\\$\\{", -1).length - 1 - (text.endsWith("}") ? 1 : 0));
            three().writes("${1:-" + closed + "}", RICH, "One").writes("${2:+" + closed + ":y}", RICH, "y").writes("${1:+x:" + closed + "}", RICH, "x");
        }
        three().writes("${1:-\\U}a${2:+\\u}b${1:+:\\L}C", RICH, "OneabC").writes("${1:-\\Q}\\E$1", RICH, "OneOne");
    }

    private static String nested(String open, int deep, String inside, String close) {
        return open.repeat(deep) + inside + close.repeat(deep);
    }

    // "nested up to 20 deep, else -35"
    private static void nestedTwentyDeep() {
        three().writes(nested("${2:-", 19, "x", "}"), RICH, "x").writes(nested("${2:-", 20, "x", "}"), RICH, "x");
        three().fails(nested("${2:-", 21, "x", "}"), RICH, -35, 100).fails(nested("${2:-", 22, "x", "}"), RICH, -35, 100);
        three().fails("ab" + nested("${b:-", 21, "", "}"), RICH, -35, 102).fails(nested("${2:-", 100, "x", "}"), RICH, -35, 100);
    }

    private static void nestedTwentyDeepOfAllForms() {
        String[] opens = {"${2:-", "${b:-", "${1:+", "${a:+", "${2:+n:", "${b:+n:"};
        String[] closes = {"}", "}", ":n}", "}", "}", "}"};
        for (int form = 0; form < opens.length; form++) {
            String open = opens[form];
            String close = closes[form];
            three().writes(nested(open, 20, "x", close), RICH, "x").writes(nested(open, 20, "${1}$1$*MARK", close), RICH, "OneOnemk");
            three().fails(nested(open, 21, "x", close), RICH, -35, 20 * open.length());
            three().writes(nested(open, 20, "x", close) + nested(open, 20, "y", close), RICH, "xy");
        }
        String mixed = opens[0] + opens[2] + opens[4];
        String closing = closes[4] + closes[2] + closes[0];
        three().writes(nested(mixed, 6, "${2:-${1:+x}}", closing), RICH, "x").fails(nested(mixed, 7, "x", closing), RICH, -35, 6 * mixed.length() + 10);
    }

    private static void nestedDeeperWhereNothingIsWritten() {
        String deep = nested("${2:-", 40, "x", "}");
        three().writes("${1:-" + deep + "}", RICH, "One").writes("${2:+" + deep + ":y}", RICH, "y").writes("${1:+y:" + deep + "}", RICH, "y");
        three().writes(nested("${2:-", 19, "${1:-" + deep + "}", "}"), RICH, "One");
    }

    // "(-58 and then this before -49.)"
    private static void missingBraceThenDepthThenGroup() {
        three().fails("${9:-x", RICH, -58, 0).fails("${nobody:+x:y", RICH, -58, 0).fails("${9:-x}", RICH, -49, 0);
        three().fails(nested("${2:-", 20, "${9:-x}", "}"), RICH, -35, 100).fails(nested("${2:-", 20, "${nobody:+x}", "}"), RICH, -35, 100);
        three().fails(nested("${2:-", 20, "${1:-x}", "}"), RICH, -35, 100).fails(nested("${2:-", 20, "${9}", "}"), RICH, -49, 100);
        three().fails(nested("${2:-", 20, "${9:=x}", "}"), RICH, -58, 100).fails(nested("${2:-", 20, "${9", "}"), RICH, -58, 0);
        three().fails(nested("${2:-", 21, "x", "}").replaceFirst("}$", ""), RICH, -58, 0);
        three().fails("${9:-" + nested("${2:-", 30, "x", "}") + "}", RICH, -49, 0);
    }

    // "\ and what is no ASCII letter or digit: that"; "another \, or a FAULT of it: -57"
    private static void everySignBehindABackslash() {
        String known = "aefnrtcx0oULulQE";
        for (char b = 0; b <= 0xFF; b++) {
            if (!Check.isLetter(b) && !Check.isDigit(b)) {
                three().writes("\\" + b, RICH, "" + b).writes("x\\" + b + "y", RICH, "x" + b + "y");
                new Check(1).writes("\\" + b + "y", RICH, b + "y");
            } else if (known.indexOf(b) < 0) {
                three().fails("\\" + b, RICH, -57, 0).fails("x\\" + b + "{41}", RICH, -57, 1);
                new Check(3).fails("\u00e9\\" + b, RICH, -57, 2);
            }
        }
        int[] wide = {0x100, 0x7FF, 0x800, 0x212A, 0xFFFF, 0x10000, 0x10FFFF};
        for (int c : wide) {
            String text = new String(Character.toChars(c));
            new Check(1).writes("\\" + text + "$$", RICH, text + "$");
        }
    }

    // "\a 7, \e 1B, \f C, \n A, \r D, \t 9"
    private static void namedCharacters() {
        String letters = "aefnrt";
        String due = "\u0007\u001b\f\n\r\t";
        for (int i = 0; i < letters.length(); i++) {
            for (int mode = 0; mode < 4; mode++) {
                char letter = letters.charAt(i);
                new Check(mode).writes("\\" + letter, RICH, "" + due.charAt(i)).writes("\\" + letter + letter, RICH, "" + due.charAt(i) + letter);
                new Check(mode).writes("\\U\\" + letter + "\\u\\" + letter + "b", RICH, "" + due.charAt(i) + due.charAt(i) + "B");
            }
        }
    }

    // "\cX: X in upper case exclusive-or 40 (X 20 .. 7E)"
    private static void controlCharacters() {
        for (char x = 0; x <= 0xFF; x++) {
            int upper = x >= 'a' && x <= 'z' ? x - 0x20 : x;
            for (int mode = 0; mode < 4; mode++) {
                if (x >= 0x20 && x <= 0x7E) {
                    new Check(mode).writes("\\c" + x + "z", RICH, (char) (upper ^ 0x40) + "z");
                } else {
                    new Check(mode).fails("ab\\c" + x, RICH, -57, 2);
                }
            }
        }
        three().fails("\\c", RICH, -57, 0).fails("ab\\c", RICH, -57, 2).writes("\\c\\n", RICH, "\u001cn").writes("\\c$1", RICH, "d1");
        three().fails("${2:-\\c}", RICH, -57, 5);
    }

    // "\0 and up to two octal digits behind"
    private static void octalDigitsBehindZero() {
        for (char one = '0'; one <= '9'; one++) {
            boolean isOctal = one <= '7';
            three().writes("\\0" + one, RICH, isOctal ? "" + (char) (one - '0') : "\0" + one);
            for (char two = '0'; two <= '9'; two++) {
                String due = !isOctal ? "\0" + one + two : two <= '7' ? "" + (char) (8 * (one - '0') + two - '0') : (char) (one - '0') + "" + two;
                three().writes("\\0" + one + two, RICH, due).writes("\\0" + one + two + "0", RICH, due + "0");
            }
        }
        three().writes("\\0", RICH, "\0").writes("\\0a", RICH, "\0a").writes("\\0{1}", RICH, "\0{1}").writes("${2:-\\0}1", RICH, "\0001");
        three().writes("${2:-\\07}7", RICH, "\0077");
    }

    // "\x and up to two hexadecimal digits (none: 0)"
    private static void hexadecimalDigits() {
        String digits = "0123456789abcdefABCDEF";
        for (char b = 0; b <= 0xFF; b++) {
            if (digits.indexOf(b) >= 0) {
                int worth = Character.digit(b, 16);
                three().writes("\\x" + b, RICH, "" + (char) worth).writes("\\x" + b + "g", RICH, (char) worth + "g").writes("\\x0" + b + "1", RICH, (char) worth + "1");
                three().writes("\\x" + b + "0", RICH, "" + (char) (16 * worth));
                new Check(1).writes("\\x" + b + "9", RICH, "" + (char) (16 * worth + 9));
            } else if (b != '{' && b != '$' && b != '\\') {
                three().writes("\\x" + b, RICH, "\0" + b).writes("\\x4" + b, RICH, "\4" + b);
            }
        }
        three().writes("\\x", RICH, "\0").writes("\\x$1", RICH, "\0One").writes("\\xff\\xFF", RICH, "\u00ff\u00ff").writes("${2:-\\x4}1", RICH, "\0041");
        three().writes("${2:-\\x}41", RICH, "\00041");
    }

    // "(1 to 8 digits in braces"
    private static void bracedDigitsOneToEight() {
        for (int length = 1; length <= 8; length++) {
            three().writes("\\x{" + "0".repeat(length - 1) + "7}", RICH, "\7").writes("\\o{" + "0".repeat(length - 1) + "7}", RICH, "\7");
            new Check(1).writes("\\x{" + "0".repeat(length) + "}", RICH, "\0").writes("\\o{" + "0".repeat(length) + "}8", RICH, "\0008");
        }
        for (int length = 9; length <= 20; length++) {
            three().fails("\\x{" + "0".repeat(length - 1) + "7}", RICH, -57, 0).fails("a\\o{" + "0".repeat(length - 1) + "7}", RICH, -57, 1);
        }
        three().fails("\\x{}", RICH, -57, 0).fails("\\o{}", RICH, -57, 0).fails("\\x{", RICH, -57, 0).fails("\\o{", RICH, -57, 0).fails("\\o", RICH, -57, 0);
        three().fails("\\x{41", RICH, -57, 0).fails("\\o{101", RICH, -57, 0).fails("\\x{00000041", RICH, -57, 0).fails("\\o101", RICH, -57, 0);
    }

    private static void bracedDigitsOfOtherKinds() {
        for (char b = 0; b <= 0xFF; b++) {
            boolean isOctal = b >= '0' && b <= '7';
            boolean isHexadecimal = Check.isDigit(b) || b >= 'a' && b <= 'f' || b >= 'A' && b <= 'F';
            if (isHexadecimal) {
                three().writes("\\x{" + b + "}", RICH, "" + (char) Character.digit(b, 16)).writes("\\x{4" + b + "}", RICH, "" + (char) (64 + Character.digit(b, 16)));
            } else if (b != '}') {
                three().fails("\\x{" + b + "}", RICH, -57, 0).fails("\\x{4" + b + "}", RICH, -57, 0).fails("\\x{4" + b, RICH, -57, 0);
            }
            if (isOctal) {
                three().writes("\\o{" + b + "}", RICH, "" + (char) (b - '0')).writes("\\o{1" + b + "}", RICH, "" + (char) (8 + b - '0'));
            } else if (b != '}') {
                three().fails("\\o{" + b + "}", RICH, -57, 0).fails("\\o{1" + b + "}", RICH, -57, 0);
            }
            if (b != '{') {
                three().fails("\\o" + b + "1}", RICH, -57, 0);
            }
        }
    }

    // "the CHARACTER must be there"; "without UTF only CHARACTERS to FF are there"
    private static void charactersThatAreThere() {
        for (int mode = 0; mode <= 2; mode += 2) {
            new Check(mode).writes("\\x{ff}\\x{000000FF}\\o{377}\\x{80}", RICH, "\u00ff\u00ff\u00ff\u0080");
            String[] bad = {"\\x{100}", "\\o{400}", "\\x{00000100}", "\\x{10ffff}", "\\x{10000}", "\\x{ffffffff}", "\\x{80000041}", "\\o{40000101}", "\\o{77777777}"};
            for (String text : bad) {
                new Check(mode).fails("a" + text, RICH, -57, 1);
            }
        }
        String last = new String(Character.toChars(0x10FFFF));
        for (int mode = 1; mode <= 3; mode += 2) {
            new Check(mode).writes("\\x{7f}\\x{80}\\x{ff}\\x{100}\\x{7ff}\\x{800}", RICH, "\u007f\u0080\u00ff\u0100\u07ff\u0800");
            new Check(mode).writes("\\x{ffff}\\x{10000}\\x{10ffff}\\x{0010FFFF}\\o{4177777}", RICH, "\uffff" + "\ud800\udc00" + last + last + last);
            String[] bad = {"\\x{110000}", "\\x{00110000}", "\\o{4200000}", "\\o{77777777}", "\\x{ffffffff}", "\\x{80000041}", "\\x{7fffffff}", "\\x{80000000}"};
            for (String text : bad) {
                new Check(mode).fails("\u00e9" + text, RICH, -57, 2);
            }
        }
    }

    // "and none of D800 .. DFFF"
    private static void surrogates() {
        new Check(1).writes("\\x{d7ff}\\x{e000}\\o{153777}\\o{160000}", RICH, "\ud7ff\ue000\ud7ff\ue000");
        String[] bad = {"\\x{d800}", "\\x{D800}", "\\x{dbff}", "\\x{dc00}", "\\x{dfff}", "\\x{0000dfff}", "\\o{154000}", "\\o{157777}"};
        for (String text : bad) {
            new Check(1).fails(text, RICH, -57, 0).fails("ab" + text, RICH, -57, 2);
            new Check(0).fails(text, RICH, -57, 0);
        }
    }

    // "without an \E to the end of the part"
    private static void quotesWithoutAnEnd() {
        three().writes("\\Q", RICH, "").writes("a\\Q", RICH, "a").writes("\\Q$1\\n", RICH, "$1\\n").writes("\\Q\\", RICH, "\\").writes("\\Q\\e", RICH, "\\e");
        three().writes("\\Q\\Q", RICH, "\\Q").writes("\\E", RICH, "").writes("\\E$1\\E\\E", RICH, "One").writes("\\Q\\E", RICH, "");
    }

    private static void quotesToTheEndOfThePart() {
        three().writes("${2:-\\Q$}$1", RICH, "$One").writes("${1:+\\Q$:no}$1", RICH, "$One").writes("${2:+no:\\Q$9}$1", RICH, "$9One");
        three().writes("${2:-\\Qa}\\E$1", RICH, "aOne").writes("\\Q${2:-\\E$1}", RICH, "${2:-One}").writes("${2:-a\\Q}$1", RICH, "aOne");
        three().writes("${2:-${2:-\\Q$}$1}", RICH, "$One").fails("${2:-\\Q\\}", RICH, -58, 0).writes("${2:-\\Q\\}}", RICH, "\\}");
    }

    // "\Q to \E: as it is"
    private static void quotesAreAsTheyAre() {
        for (char b = 0; b <= 0xFF; b++) {
            three().writes("\\Q" + b + "\\E$1", RICH, b + "One").writes("\\Q$" + b + "${\\" + (b == 'E' ? 'F' : b) + "\\E", RICH, "$" + b + "${\\" + (b == 'E' ? 'F' : b));
        }
        new Check(1).writes("\\Q\u00e9\u20ac$\\E$$", RICH, "\u00e9\u20ac$$").writes("\\Q\u00e9", RICH, "\u00e9");
        three().writes("\\Qa\\E\\Qb\\E\\Ec", RICH, "abc").writes("\\Q\\\\E$1", RICH, "\\One").writes("\\Q\\\\\\E$1", RICH, "\\\\One");
    }

    private static void backslashAtTheEnd() {
        three().fails("\\", RICH, -57, 0).fails("ab\\", RICH, -57, 2).writes("\\\\", RICH, "\\").fails("\\\\\\", RICH, -57, 2);
        three().fails("${2:-\\", RICH, -58, 0).fails("\\U\\", RICH, -57, 2);
    }

    // What is behind a part is not of it: a sign at its end that asks for more has nothing behind it.
    private static void partEndsWhereTheTextGoesOn() {
        three().fails("${2:-$}1", RICH, -35, 5).fails("${1:+$:1}", RICH, -35, 5).fails("${2:+:$}1", RICH, -35, 6).fails("${2:-\\c}A", RICH, -57, 5);
        three().fails("${1:+\\c:A}", RICH, -57, 5).fails("${2:-\\o}{101}", RICH, -57, 5).writes("${2:-$1}1", RICH, "One1").writes("${2:-$a}a", RICH, "Onea");
        three().fails("${2:-$*}MARK}", RICH, -35, 5).writes("${2:-$*MARK}S", RICH, "mkS").writes("${2:-\\u}ab", RICH, "Ab");
        // \c takes the \ that hides a sign from the end of the part, and what it hid stands bare then.
        three().fails("${2:-\\c\\\\}", RICH, -57, 8).fails("${2:-\\c\\$}}", RICH, -35, 8).fails("${2:-\\c\\${1}}", RICH, -58, 8);
    }

    // "The first code met is that of write"
    private static void firstCodeMet() {
        String[] codes = {"$ ", "$9", "$2", "${1", "\\q", "${9:-x}", "${1:="};
        int[] due = {-35, -49, -55, -58, -57, -49, -58};
        for (int one = 0; one < codes.length; one++) {
            for (int other = 0; other < codes.length; other++) {
                three().fails("\\U$1" + codes[one] + " " + codes[other], RICH, due[one], 4);
            }
            String inside = codes[one].endsWith("}") ? codes[one] : codes[one] + " ";
            if (due[one] != -58) {
                three().fails("${2:-" + inside + "}\\q", RICH, due[one], 5).fails("${2:+:" + inside + "}$", RICH, due[one], 6);
            }
        }
    }
}
