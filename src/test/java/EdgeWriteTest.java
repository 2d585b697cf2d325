/** The edges that the document names of WRITING without RICH, and in the promises 9, 10 and 11. */
public final class EdgeWriteTest {
    private static final int ALL = Check.RICH | Check.EMPTY | Check.UNKNOWN | Check.PLAIN;
    private static final String NAME_32 = "Abc_5678".repeat(4);

    public static void main(String[] args) {
        nothingIsWritten();
        resultIsEmptyBefore();
        resultIsEmptyBehindACode();
        everySumOfOptions();
        everyOtherBitOfOptions();
        resultAtBothEnds();
        resultBeyondBothEnds();
        resultOfHighBytes();
        faultBeforeAWrite();
        faultOfTheLastWrite();
        faultOfEachCode();
        faultStaysWhenWriteThrows();
        faultOfAnythingElse();
        plainWhateverElseIsAdded();
        twoDollars();
        allDigitsAreOfTheNumber();
        numbersAbove65535();
        allWordCharactersAreOfTheName();
        thirtyTwoAreOfTheName();
        behindTheThirtySecond();
        unsetAndMissing();
        markOrNot();
        dollarAndAnythingElse();
        braceAndAnythingElse();
        noBraceWhereItMustBe();
        firstCodeMet();
        mostBytesOfAResult();
        mostBytesFromEverySource();
        notUtf8ComesFirst();
        Check.finish();
    }

    /** Groups 0 to 3 named zero to three; 3 is unset. */
    private static Check four(int mode) {
        Check c = new Check(mode).groups(3).set(0, "all").set(1, "One").set(2, "Two");
        return c.name(1, "one").name(2, "two").name(3, "three").mark("Mk");
    }

    private static void nothingIsWritten() {
        for (int mode = 0; mode < 4; mode++) {
            for (int options = 0; options <= ALL; options += 512) {
                four(mode).writes("", options, "");
            }
        }
    }

    // "THE RESULT being empty before"
    private static void resultIsEmptyBefore() {
        Check c = four(0).writes("a long result", 0, "a long result").writes("short", 0, "short").writes("", 0, "");
        Check.throwsException("result(0)", IndexOutOfBoundsException.class, () -> c.writer.result(0));
    }

    // "or a code (THE RESULT is empty then)"
    private static void resultIsEmptyBehindACode() {
        Check c = four(1);
        c.writes("before", 0, "before").fails("some bytes$9", 0, -49, 10).writes("again", 0, "again");
        c.failsBytes(Check.bytes("a\u00ff"), 0, -3, 1).writes("again", 0, "again").fails("ab$1$", 0, -35, 4);
    }

    // "options, added: 512 RICH, 1024 EMPTY, 2048 UNKNOWN, 4096 PLAIN"
    private static void everySumOfOptions() {
        for (int options = 0; options <= ALL; options += 512) {
            boolean rich = (options & Check.RICH) != 0;
            if ((options & Check.PLAIN) != 0) {
                four(0).writes("\\x41$3$9", options, "\\x41$3$9");
                continue;
            }
            four(0).writes("\\x41", options, rich ? "A" : "\\x41");
            if ((options & Check.EMPTY) != 0) {
                four(0).writes("<$3>", options, "<>");
            } else {
                four(0).fails("<$3>", options, -55, 1);
            }
            if ((options & Check.UNKNOWN) == 0) {
                four(0).fails("<$9>", options, -49, 1);
            } else if ((options & Check.EMPTY) != 0) {
                four(0).writes("<$9>", options, "<>");
            } else {
                four(0).fails("<$9>", options, -55, 1);
            }
        }
    }

    // "IllegalArgumentException: others."
    private static void everyOtherBitOfOptions() {
        for (int bit = 0; bit < 32; bit++) {
            int one = 1 << bit;
            if ((one & ALL) != 0) {
                continue;
            }
            for (int options = 0; options <= ALL; options += 512) {
                int bad = one | options;
                Check c = four(0).writes("kept", 0, "kept").feedText("$1");
                Check.throwsException("write(" + bad + ")", IllegalArgumentException.class, () -> c.writer.write(bad));
                Check.same("the text stays", c.writer.count(0), 2);
                Check.sameText("the result stays", c.resultAsBytes(), "kept");
            }
        }
    }

    // "Byte i of THE RESULT."
    private static void resultAtBothEnds() {
        Check c = four(0).writes("z$1y", 0, "zOney");
        Check.same("the first", c.writer.result(0), 'z');
        Check.same("the last", c.writer.result(4), 'y');
        c.writes("x", 0, "x");
        Check.same("the only one", c.writer.result(0), 'x');
    }

    // "IndexOutOfBoundsException: there is none."
    private static void resultBeyondBothEnds() {
        Check c = four(0).writes("a longer result than that behind it", 0, "a longer result than that behind it");
        c.writes("abc", 0, "abc");
        int[] bad = {-1, 3, 4, 15, 16, 34, Integer.MAX_VALUE, Integer.MIN_VALUE, -3, 262144};
        for (int i : bad) {
            Check.throwsException("result(" + i + ")", IndexOutOfBoundsException.class, () -> c.writer.result(i));
        }
    }

    private static void resultOfHighBytes() {
        for (char b = 0; b <= 0xFF; b++) {
            Check c = new Check(0).set(0, "" + b);
            c.feedText("$0").writer.write(0);
            Check.same("byte " + (int) b, c.writer.result(0), b);
        }
    }

    // "(before one 0, and -1 for 1)"
    private static void faultBeforeAWrite() {
        Check c = new Check(1).groups(2).set(1, "a").name(1, "n").mark("m").feedText("$9");
        Check.same("fault(0)", c.writer.fault(0), 0);
        Check.same("fault(1)", c.writer.fault(1), -1);
        Check.throwsException("write(1)", IllegalArgumentException.class, () -> c.writer.write(1));
        Check.same("fault(0) behind a write that threw", c.writer.fault(0), 0);
        Check.same("fault(1) behind a write that threw", c.writer.fault(1), -1);
    }

    // "its code, 0 if it had none"
    private static void faultOfTheLastWrite() {
        Check c = four(0).fails("ab$9", 0, -49, 2).writes("x", 0, "x").fails("$", 0, -35, 0).fails("abc${1", 0, -58, 3);
        c.writes("$9", Check.PLAIN, "$9").fails("$3", 0, -55, 0).writes("", 0, "");
    }

    // "the offset of the bad character for -3, of the $ or \ for -35, -49, -55, -57, -58, else -1"
    private static void faultOfEachCode() {
        Check c = four(1);
        c.failsBytes(Check.bytes("ab\u00e2\u0082"), 0, -3, 2).fails("ab$ ", 0, -35, 2).fails("ab${9}", 0, -49, 2);
        c.fails("ab${3}", 0, -55, 2).fails("ab\\q", Check.RICH, -57, 2).fails("ab${one", 0, -58, 2);
        c.fails("ab\\x{110000}", Check.RICH, -57, 2).fails("ab${1:-x", Check.RICH, -58, 2).fails("ab$*MAR", 0, -35, 2);
        Check d = new Check(0).set(0, "x".repeat(1024));
        d.fails("$0".repeat(257), 0, -48, -1);
    }

    // "Of the last write that did not throw"
    private static void faultStaysWhenWriteThrows() {
        Check c = four(0).fails("ab$9", 0, -49, 2).feedText("$");
        Check.throwsException("write(1)", IllegalArgumentException.class, () -> c.writer.write(1));
        Check.same("fault(0)", c.writer.fault(0), -49);
        Check.same("fault(1)", c.writer.fault(1), 2);
        c.writer.end(0);
        c.set(1, "b").mark("n").groups(1);
        c.feedText("x").writer.end(0);
        c.writer.unset(0);
        Check.same("fault(0) behind other calls", c.writer.fault(0), -49);
        Check.same("fault(1) behind other calls", c.writer.fault(1), 2);
    }

    // "IllegalArgumentException: another what."
    private static void faultOfAnythingElse() {
        Check c = four(0).fails("$9", 0, -49, 0);
        int[] bad = {-1, 2, 3, -2, 256, 257, Integer.MAX_VALUE, Integer.MIN_VALUE, Integer.MIN_VALUE + 1};
        for (int what : bad) {
            Check.throwsException("fault(" + what + ")", IllegalArgumentException.class, () -> c.writer.fault(what));
            Check.throwsException("new: fault(" + what + ")", IllegalArgumentException.class, () -> new ReplacementWriter(0).fault(what));
        }
    }

    // "with PLAIN, as it is. (Whatever else is added.)"
    private static void plainWhateverElseIsAdded() {
        String[] texts = {"$", "$$", "${", "${1", "$9", "$3", "$1", "\\", "\\U$1", "\\Qa\\E", "${3:-x}", "\u00e9\\\u00e9", "$*MARK", "\\q"};
        for (String text : texts) {
            for (int other = 0; other < Check.PLAIN; other += 512) {
                four(0).writes(text, Check.PLAIN | other, text);
                four(1).writes(text, Check.PLAIN | other, text);
            }
        }
    }

    // "$$: $."
    private static void twoDollars() {
        Check c = four(0).writes("$$", 0, "$").writes("$$$$", 0, "$$").writes("$$1", 0, "$1").writes("$$$1", 0, "$One");
        c.fails("$$$", 0, -35, 2).fails("$$$$$", 0, -35, 4).writes("$$${1}$$", 0, "$One$").writes("$${1}", 0, "${1}");
        c.writes("$1$$", 0, "One$").writes("$one$$one", 0, "One$one").fails("${$$}", 0, -35, 0);
    }

    // "$n ${n} (all digits"
    private static void allDigitsAreOfTheNumber() {
        Check c = new Check(0).groups(99).set(1, "a").set(12, "b").set(99, "c");
        c.writes("$1.$12.$99.", 0, "a.b.c.").writes("$1x$12_${1}2${12}3", 0, "axb_a2b3").fails("$123", 0, -49, 0);
        c.writes("$01$012$0099" + "$" + "0".repeat(50) + "1", 0, "abca").writes("${01}${000099}", 0, "ac");
        c.fails("$990", 0, -49, 0).fails("${100}", 0, -49, 0).fails("$2", 0, -55, 0).fails("$00", 0, -55, 0);
    }

    // "n above 65535 is like 65535"
    private static void numbersAbove65535() {
        String[] above = {
            "65534", "65535", "65536", "65537", "131073", "655350", "655360", "2147483647", "2147483648", "4294967296", "4294967297",
            "42949672961", "18446744073709551616", "18446744073709551617", "9".repeat(200), "1" + "0".repeat(100), "1" + "0".repeat(99) + "1",
        };
        for (String n : above) {
            Check c = four(0);
            c.fails("$" + n, 0, -49, 0).fails("${" + n + "}", 0, -49, 0).fails("a$" + n, Check.UNKNOWN, -55, 1);
            c.writes("<$" + n + "${" + n + "}>", Check.UNKNOWN | Check.EMPTY, "<>").fails("$" + n, Check.EMPTY, -49, 0);
            c.writes("${" + n + ":-x}", Check.RICH | Check.UNKNOWN, "x");
        }
    }

    // "(all word characters"
    private static void allWordCharactersAreOfTheName() {
        for (char b = 0; b <= 0xFF; b++) {
            Check c = new Check(0).groups(1).name(1, "n").set(1, "N");
            if (Check.isLetter(b) || Check.isDigit(b) || b == '_') {
                c.fails("$n" + b, 0, -49, 0).fails("${n" + b + "}", 0, -49, 0);
            } else if (b != '$') {
                c.writes("$n" + b, 0, "N" + b);
            }
        }
        new Check(1).groups(1).name(1, "n").set(1, "N").writes("$n\u00e9$n\u20ac", 0, "N\u00e9N\u20ac");
    }

    // "32 at most"
    private static void thirtyTwoAreOfTheName() {
        for (int length = 1; length <= 32; length++) {
            String name = NAME_32.substring(0, length);
            Check c = new Check(0).groups(2).name(1, name).set(1, "N").set(2, "other");
            c.writes("$" + name, 0, "N").writes("${" + name + "}", 0, "N").writes("$" + name + "-", 0, "N-");
        }
        Check c = new Check(0).groups(2).name(1, NAME_32).set(1, "N").name(2, NAME_32.substring(0, 31)).set(2, "M");
        c.writes("$" + NAME_32 + "." + "$" + NAME_32.substring(0, 31), 0, "N.M");
    }

    // "what is behind the 32nd is not of it: as it is, or no } where it must be"
    private static void behindTheThirtySecond() {
        Check c = new Check(0).groups(1).name(1, NAME_32).set(1, "N");
        c.writes("$" + NAME_32 + "x", 0, "Nx").writes("$" + NAME_32 + "_9", 0, "N_9").writes("$" + NAME_32 + "$" + NAME_32, 0, "NN");
        c.fails("${" + NAME_32 + "x}", 0, -58, 0).fails("a${" + NAME_32 + "1}", 0, -58, 1).fails("${" + NAME_32 + "_", Check.RICH, -58, 0);
        c.fails("${" + NAME_32 + "x:-y}", Check.RICH, -58, 0).writes("${" + NAME_32 + ":+y}", Check.RICH, "y");
        c.fails("$" + "z".repeat(40), 0, -49, 0).fails("${" + "z".repeat(33) + "}", 0, -58, 0).fails("${" + "z".repeat(32) + "}", 0, -49, 0);
        c.writes("<$" + "z".repeat(40) + ">", Check.UNKNOWN | Check.EMPTY, "<zzzzzzzz>");
    }

    // "no such GROUP: -49, with UNKNOWN as unset; unset: -55, with EMPTY nothing"
    private static void unsetAndMissing() {
        String[] missing = {"$4", "${4}", "$four", "${four}", "$100", "$_", "${_}"};
        for (String text : missing) {
            four(0).fails("a" + text, 0, -49, 1).fails("a" + text, Check.EMPTY, -49, 1).fails("a" + text, Check.UNKNOWN, -55, 1);
            four(0).writes("a" + text, Check.UNKNOWN | Check.EMPTY, "a");
        }
        String[] unset = {"$3", "${3}", "$three", "${three}"};
        for (String text : unset) {
            four(0).fails("a" + text, 0, -55, 1).fails("a" + text, Check.UNKNOWN, -55, 1).writes("a" + text, Check.EMPTY, "a");
            four(0).writes("a" + text, Check.UNKNOWN | Check.EMPTY, "a");
        }
        String[] set = {"$2", "${2}", "$two", "${two}"};
        for (String text : set) {
            for (int options = 0; options < Check.PLAIN; options += 512) {
                four(0).writes("a" + text, options, "aTwo");
            }
        }
    }

    // "${*MARK} $*MARK: THE MARK. ($* without MARK: -35.)"
    private static void markOrNot() {
        Check c = four(0).writes("$*MARK", 0, "Mk").writes("${*MARK}", 0, "Mk").writes("$*MARK}$*MARK$*MARKMARK", 0, "Mk}MkMkMARK");
        c.writes("$*MARK1_", 0, "Mk1_").writes("$*MARK:-x}", Check.RICH, "Mk:-x}");
        String[] without = {"$*", "$*M", "$*MA", "$*MAR", "$*MARk", "$*mark", "$*ARK", "$* MARK", "$**MARK", "${*}", "${*", "${*MAR}", "${*mark}", "${**MARK}"};
        for (String text : without) {
            four(0).fails(text, 0, -35, 0).fails("ab" + text, Check.RICH | Check.UNKNOWN | Check.EMPTY, -35, 2);
        }
        String[] open = {"${*MARK", "${*MARK ", "${*MARKS}", "${*MARK:-x}", "${*MARK:+x:y}", "${*MARK$"};
        for (String text : open) {
            four(0).fails(text, 0, -58, 0).fails("ab" + text, Check.RICH, -58, 2);
        }
    }

    // "$ and anything else: -35"
    private static void dollarAndAnythingElse() {
        four(0).fails("$", 0, -35, 0).fails("abc$", Check.RICH, -35, 3);
        for (char b = 0; b <= 0xFF; b++) {
            if (b == '$' || b == '_' || Check.isLetter(b) || Check.isDigit(b)) {
                continue;
            }
            four(0).fails("$" + b, 0, -35, 0).fails("$$$" + b + " 1", Check.RICH | Check.EMPTY | Check.UNKNOWN, -35, 2);
        }
        four(1).fails("a$\u00e9", 0, -35, 1).fails("a$\u20ac", 0, -35, 1);
    }

    private static void braceAndAnythingElse() {
        four(0).fails("${", 0, -35, 0).fails("abc${", Check.RICH, -35, 3);
        for (char b = 0; b <= 0xFF; b++) {
            if (b == '_' || Check.isLetter(b) || Check.isDigit(b)) {
                continue;
            }
            four(0).fails("${" + b, 0, -35, 0).fails("a${" + b + "1}", Check.RICH | Check.EMPTY | Check.UNKNOWN, -35, 1);
        }
    }

    // "no } where it must be: -58"
    private static void noBraceWhereItMustBe() {
        String[] begun = {"${1", "${one", "${9", "${nobody", "${0001", "${65536"};
        for (String text : begun) {
            four(0).fails(text, 0, -58, 0).fails("ab" + text, Check.RICH | Check.EMPTY | Check.UNKNOWN, -58, 2);
        }
        for (char b = 0; b <= 0xFF; b++) {
            if (b == '}' || Check.isDigit(b)) {
                continue;
            }
            four(0).fails("${1" + b + "}", 0, -58, 0).fails("a${9" + b, Check.EMPTY | Check.UNKNOWN, -58, 1);
            if (b != '_' && !Check.isLetter(b)) {
                four(0).fails("${one" + b + "}", 0, -58, 0);
            }
        }
    }

    // "The first code met is that of write"
    private static void firstCodeMet() {
        String[] codes = {"$ ", "$9", "$3", "${1"};
        int[] due = {-35, -49, -55, -58};
        for (int one = 0; one < codes.length; one++) {
            for (int other = 0; other < codes.length; other++) {
                four(0).fails("a$1" + codes[one] + " " + codes[other], 0, due[one], 3);
            }
        }
    }

    // "more than 262,144 bytes: -48"
    private static void mostBytesOfAResult() {
        Check c = new Check(0).groups(3).set(1, "x".repeat(4096)).set(2, "y").set(3, "");
        String full = "$1".repeat(64);
        Check.same("as many as may be", c.feedText(full).writer.write(0), 262144);
        Check.same("the last", c.writer.result(262143), 'x');
        Check.throwsException("one behind", IndexOutOfBoundsException.class, () -> c.writer.result(262144));
        Check.same("nothing more", c.feedText(full + "$3").writer.write(0), 262144);
        Check.same("just full", c.feedText("$1".repeat(63) + "z".repeat(4095) + "$2").writer.write(0), 262144);
        c.fails(full + "z", 0, -48, -1).fails(full + "$2", 0, -48, -1).fails(full + "$$", 0, -48, -1).fails("z" + full, 0, -48, -1);
        c.fails(full + "z$", 0, -48, -1).fails(full + "$", 0, -35, 128).fails(full + "$9", 0, -49, 128).fails("$9" + full + "z", 0, -49, 0);
        c.writes("behind it", 0, "behind it");
    }

    private static void mostBytesFromEverySource() {
        Check c = new Check(1).groups(1).set(1, "x".repeat(4096)).mark("m");
        String near = "$1".repeat(63) + "x".repeat(4095);
        c.fails(near + "\u00e9", 0, -48, -1).fails(near + "$*MARKz", 0, -48, -1).fails(near + "\\n\\n", Check.RICH, -48, -1);
        c.fails(near + "\\Qab\\E", Check.RICH, -48, -1).fails(near + "\\x{e9}", Check.RICH, -48, -1).fails(near + "${0:-ab}", Check.RICH, -48, -1);
        Check d = new Check(1).groups(1).set(1, "x".repeat(4096));
        // The Kelvin sign has three bytes, the k that it is turned into has one.
        Check.same("turned into less", d.feedText(near + "\\L\u212a").writer.write(Check.RICH), 262144);
        d.fails(near + "\u212a", 0, -48, -1);
        Check e = new Check(1).groups(1).set(1, "\u0100".repeat(2048));
        Check.same("of two bytes each", e.feedText("$1".repeat(64)).writer.write(0), 262144);
        e.fails("a" + "$1".repeat(64), 0, -48, -1);
    }

    // "-3: THE TEXT is not UTF-8"
    private static void notUtf8ComesFirst() {
        String[] before = {"", "$", "$9", "${1", "\\q", "${3:-", "\\Q", "${1:-"};
        for (String text : before) {
            for (int options = 0; options <= ALL; options += 512) {
                four(1).failsBytes(Check.bytes(text + "\u00ff"), options, -3, text.length());
                four(3).failsBytes(Check.bytes(text + "\u00c3" + text), options, -3, text.length());
            }
        }
        four(0).writes("\u00ff\u00c3", 0, "\u00ff\u00c3");
        four(2).writes("\u00ff\u00c3", 0, "\u00ff\u00c3");
    }
}
