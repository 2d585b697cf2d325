import java.io.ByteArrayOutputStream;

/** The edges that the document names in "What it is", in TEXTS and in the promises 1, 2, 3 and 12. */
public final class EdgeTextTest {
    public static void main(String[] args) {
        lastOf512Calls();
        most255NamesIn512Calls();
        textHasAtMost65536Bytes();
        feedNeedsRoomForTwenty();
        textIsEmptyWhenTaken();
        utf8IsInShortestForms();
        utf8EndsAt10FFFF();
        utf8HasNoSurrogates();
        utf8MustBeWhole();
        everyCharacterOfUtf8IsTaken();
        withoutUtfEachByteIsACharacter();
        offsetsAreNumbersOfBytes();
        newObjectHasGroupZeroAlone();
        newObjectHasEmptyTexts();
        onlyTwoBitsOfModeCount();
        feedTakesEveryByte();
        endAtBothEnds();
        endBeyondBothEnds();
        endLeavesTheFirstBytes();
        countOfAnythingElse();
        Check.finish();
    }

    // "An object is used for at most 512 calls after it has been made"
    private static void lastOf512Calls() {
        ReplacementWriter writer = new ReplacementWriter(0);
        for (int call = 1; call <= 510; call++) {
            Check.same("feed " + call, writer.feed(call, call, call, call, call), 20 * call);
        }
        Check.same("call 511: write", writer.write(Check.PLAIN), 10200);
        Check.same("call 512: result", writer.result(10199), 510 & 255);
    }

    private static void most255NamesIn512Calls() {
        ReplacementWriter writer = new ReplacementWriter(0);
        writer.groups(1);
        for (int i = 1; i <= 255; i++) {
            int end = 0x41410000 | 'A' + i / 26 << 8 | 'A' + i % 26;
            writer.feed(0x41414141, 0x41414141, 0x41414141, 0x41414141, end);
            Check.same("name " + i, writer.name(1), i);
        }
        Check.same("call 512: count(3)", writer.count(3), 255);
    }

    // "THE TEXT is a row of at most 65,536 bytes"; more calls than an object is promised for.
    private static void textHasAtMost65536Bytes() {
        Check c = new Check(0);
        c.feedText("f".repeat(65536));
        Check.same("the longest text", c.writer.count(0), 65536);
        Check.same("end of the longest", c.writer.end(65536), 65536);
        Check.same("write of the longest", c.writer.write(0), 65536);
        Check.same("its last byte", c.writer.result(65535), 'f');
        Check.same("set of the longest", c.feedText("f".repeat(65536)).writer.set(0), 65536);
        Check.same("mark of the longest", c.feedText("f".repeat(65536)).writer.mark(), 65536);
        Check.same("write of both", c.feedText("$0$*MARK").writer.write(0), 131072);
    }

    // "IllegalStateException: there is no room for 20"
    private static void feedNeedsRoomForTwenty() {
        for (int length = 65510; length <= 65536; length++) {
            Check c = new Check(0).feedText("r".repeat(length));
            if (length <= 65516) {
                Check.same("feed behind " + length, c.writer.feed(1, 2, 3, 4, 5), length + 20);
            } else {
                Check.throwsException("feed behind " + length, IllegalStateException.class, () -> c.writer.feed(1, 2, 3, 4, 5));
                Check.same("the text stays", c.writer.count(0), length);
            }
        }
    }

    // "set, name, mark and write take it, and it is empty then"
    private static void textIsEmptyWhenTaken() {
        Check c = new Check(1).groups(1);
        c.feedText("t").writer.set(1);
        Check.same("behind set", c.writer.count(0), 0);
        c.feedText("t").writer.name(1);
        Check.same("behind name", c.writer.count(0), 0);
        c.feedText("t").writer.mark();
        Check.same("behind mark", c.writer.count(0), 0);
        c.feedText("t").writer.write(0);
        Check.same("behind write", c.writer.count(0), 0);
        c.feedText("$9").writer.write(0);
        Check.same("behind write with a code", c.writer.count(0), 0);
        c.feedBytes(Check.bytes("\u00ff")).writer.write(0);
        Check.same("behind write of what is not UTF-8", c.writer.count(0), 0);
        Check.same("feed begins anew", c.writer.feed(0, 0, 0, 0, 0), 20);
    }

    private static void taken(String bytes) {
        Check c = new Check(1);
        Check.same("set", c.feedBytes(Check.bytes(bytes)).writer.set(0), 1);
        Check.same("mark", c.feedBytes(Check.bytes(bytes)).writer.mark(), 1);
        Check.same("write", c.feedBytes(Check.bytes(bytes)).writer.write(0), bytes.length());
        Check.sameText("result", c.resultAsBytes(), bytes);
        Check.same("set between others", c.feedBytes(Check.bytes("a" + bytes + bytes + "z")).writer.set(0), 4);
        c.feedText("$0").writer.write(0);
        Check.sameText("what the group holds", c.resultAsBytes(), "a" + bytes + bytes + "z");
    }

    private static void notTaken(String bytes) {
        Check c = new Check(3);
        c.feedBytes(Check.bytes(bytes));
        Check.throwsException("set", UnsupportedOperationException.class, () -> c.writer.set(0));
        c.feedBytes(Check.bytes(bytes));
        Check.throwsException("mark", UnsupportedOperationException.class, () -> c.writer.mark());
        c.failsBytes(Check.bytes(bytes), 0, -3, 0).failsBytes(Check.bytes("a\u00c3\u00a9" + bytes + "z"), 0, -3, 3);
        c.failsBytes(Check.bytes(bytes + "$9"), Check.RICH, -3, 0).failsBytes(Check.bytes("$9" + bytes), Check.PLAIN, -3, 2);
    }

    // "UTF-8 (shortest forms"
    private static void utf8IsInShortestForms() {
        String[] shortest = {"\0", "\u007f", "\u00c2\u0080", "\u00df\u00bf", "\u00e0\u00a0\u0080", "\u00ef\u00bf\u00bf", "\u00f0\u0090\u0080\u0080"};
        for (String bytes : shortest) {
            taken(bytes);
        }
        String[] longer = {
            "\u00c0\u0080", "\u00c0\u00bf", "\u00c1\u0080", "\u00c1\u00bf", "\u00e0\u0080\u0080", "\u00e0\u0081\u00bf", "\u00e0\u0082\u0080", "\u00e0\u009f\u00bf",
            "\u00f0\u0080\u0080\u0080", "\u00f0\u0080\u00a0\u0080", "\u00f0\u008f\u00bf\u00bf",
        };
        for (String bytes : longer) {
            notTaken(bytes);
        }
    }

    // "U+0 .. U+10FFFF"
    private static void utf8EndsAt10FFFF() {
        taken("\u00f4\u008f\u00bf\u00bf");
        String[] beyond = {
            "\u00f4\u0090\u0080\u0080", "\u00f4\u00bf\u00bf\u00bf", "\u00f5\u0080\u0080\u0080", "\u00f7\u00bf\u00bf\u00bf",
            "\u00f8\u0088\u0080\u0080\u0080", "\u00fc\u0084\u0080\u0080\u0080\u0080", "\u00fe", "\u00ff",
        };
        for (String bytes : beyond) {
            notTaken(bytes);
        }
    }

    // "without U+D800 .. U+DFFF"
    private static void utf8HasNoSurrogates() {
        taken("\u00ed\u009f\u00bf");
        taken("\u00ee\u0080\u0080");
        notTaken("\u00ed\u00a0\u0080");
        notTaken("\u00ed\u00af\u00bf");
        notTaken("\u00ed\u00b0\u0080");
        notTaken("\u00ed\u00bf\u00bf");
        notTaken("\u00ed\u00a0\u0080\u00ed\u00b0\u0080");
    }

    private static void utf8MustBeWhole() {
        String[] bad = {
            "\u0080", "\u00bf", "\u00c2", "\u00c2A", "\u00c2\u00c2\u0080", "\u00df\u00c0", "\u00e0\u00a0", "\u00e0\u00a0A", "\u00e1\u0080", "\u00e1A\u0080", "\u00e1\u0080\u00c0",
            "\u00ef\u00bf", "\u00f0\u0090\u0080", "\u00f0\u0090\u0080A", "\u00f1\u0080A\u0080", "\u00f1A\u0080\u0080", "\u00f1\u0080\u0080\u00c0", "\u00f4\u008f", "\u00f4",
        };
        for (String bytes : bad) {
            notTaken(bytes);
        }
    }

    private static void everyCharacterOfUtf8IsTaken() {
        for (int from = 0; from <= 0x10FFFF; from += 10000) {
            ByteArrayOutputStream bytes = new ByteArrayOutputStream();
            int characters = 0;
            for (int c = from; c < from + 10000 && c <= 0x10FFFF; c++) {
                if (c < 0xD800 || c > 0xDFFF) {
                    bytes.writeBytes(new String(Character.toChars(c)).getBytes(java.nio.charset.StandardCharsets.UTF_8));
                    characters++;
                }
            }
            Check.same("characters from " + from, new Check(1).feedBytes(bytes.toByteArray()).writer.set(0), characters);
        }
    }

    // "if not, each byte is a CHARACTER 0 .. FF"
    private static void withoutUtfEachByteIsACharacter() {
        StringBuilder all = new StringBuilder();
        for (char c = 0; c <= 0xFF; c++) {
            all.append(c);
        }
        for (int mode = 0; mode <= 2; mode += 2) {
            Check c = new Check(mode);
            Check.same("set", c.feedText(all.toString()).writer.set(0), 256);
            Check.same("mark", c.feedText(all.toString()).writer.mark(), 256);
            c.writes(all.toString(), Check.PLAIN, all.toString());
            Check d = new Check(mode).set(0, all.toString()).mark(all.toString());
            Check.same("write", d.feedText("$0$*MARK").writer.write(0), 512);
            Check.sameText("result", d.resultAsBytes(), all.toString() + all);
        }
    }

    // "OFFSETS are numbers of bytes"
    private static void offsetsAreNumbersOfBytes() {
        String wide = new String(Character.toChars(0x1F600));
        new Check(1).fails("\u00e9\u20ac" + wide + "$", 0, -35, 9).fails("\u00e9\u20ac" + wide + "\\q", Check.RICH, -57, 9);
        new Check(0).fails("\u00e9\u00e9$", 0, -35, 2);
    }

    // "GROUP 0 alone, unset"
    private static void newObjectHasGroupZeroAlone() {
        for (int mode = 0; mode < 4; mode++) {
            Check c = new Check(mode);
            Check.same("greatest", c.writer.count(2), 0);
            c.fails("$0", 0, -55, 0).fails("$1", 0, -49, 0).writes("${0:+set:unset}", Check.RICH, "unset");
            c.feedText("n");
            Check.throwsException("name(1)", IllegalArgumentException.class, () -> c.writer.name(1));
            Check.throwsException("set(1)", IllegalArgumentException.class, () -> c.writer.set(1));
            Check.throwsException("unset(1)", IllegalArgumentException.class, () -> c.writer.unset(1));
            Check.same("set(0)", c.writer.set(0), 1);
        }
    }

    // "all texts are empty"
    private static void newObjectHasEmptyTexts() {
        for (int mode = 0; mode < 4; mode++) {
            Check c = new Check(mode);
            Check.same("bytes in the text", c.writer.count(0), 0);
            Check.same("bytes in the result", c.writer.count(1), 0);
            Check.same("names", c.writer.count(3), 0);
            Check.throwsException("result(0)", IndexOutOfBoundsException.class, () -> c.writer.result(0));
            Check.throwsException("end(1)", IllegalArgumentException.class, () -> c.writer.end(1));
            Check.same("write of nothing", c.writer.write(0), 0);
            c.writes("<$*MARK>", 0, "<>");
        }
    }

    // "bit 0 set: UTF; bit 1 set: UCP"
    private static void onlyTwoBitsOfModeCount() {
        int[] higher = {0, 4, 8, 1 << 16, 1 << 30, 1 << 31, -4, 0x7FFFFFFC};
        for (int bits : higher) {
            Check.same("no bit: characters", new Check(bits).feedBytes(Check.bytes("\u00c3\u00a9")).writer.set(0), 2);
            new Check(bits).writes("\\U\u00e9z", Check.RICH, "\u00e9Z");
            Check.same("UTF: characters", new Check(bits | 1).feedBytes(Check.bytes("\u00c3\u00a9")).writer.set(0), 1);
            new Check(bits | 1).writes("\\U\u00e9z", Check.RICH, "\u00c9Z");
            Check.same("UCP: characters", new Check(bits | 2).feedBytes(Check.bytes("\u00c3\u00a9")).writer.set(0), 2);
            new Check(bits | 2).writes("\\U\u00e9z", Check.RICH, "\u00c9Z");
            Check.same("both: characters", new Check(bits | 3).feedBytes(Check.bytes("\u00c3\u00a9")).writer.set(0), 1);
            new Check(bits | 3).writes("\\U\u00e9z", Check.RICH, "\u00c9Z");
        }
    }

    // "The four bytes of each, the highest first"
    private static void feedTakesEveryByte() {
        int[] fours = {0, -1, Integer.MIN_VALUE, Integer.MAX_VALUE, 0x01020304, 0xFEDCBA98, 0x80, 0x8000, 0x800000, 0x00FF00FF};
        for (int four : fours) {
            ReplacementWriter writer = new ReplacementWriter(0);
            Check.same("feed", writer.feed(four, ~four, four, ~four, four), 20);
            Check.same("write", writer.write(Check.PLAIN), 20);
            for (int i = 0; i < 20; i++) {
                int number = i / 4 % 2 == 0 ? four : ~four;
                Check.same("byte " + i + " of " + four, writer.result(i), number >> 24 - 8 * (i % 4) & 255);
            }
        }
    }

    // "not 0 .. its length"
    private static void endAtBothEnds() {
        Check c = new Check(0);
        Check.same("end(0) of an empty text", c.writer.end(0), 0);
        c.writer.feed(1, 2, 3, 4, 5);
        Check.same("end at its length", c.writer.end(20), 20);
        Check.same("all stays", c.writer.count(0), 20);
        Check.same("end(19)", c.writer.end(19), 19);
        Check.same("one is gone", c.writer.count(0), 19);
        Check.same("end(0)", c.writer.end(0), 0);
        Check.same("all is gone", c.writer.count(0), 0);
    }

    private static void endBeyondBothEnds() {
        Check c = new Check(0);
        int[] bad = {1, -1, 20, Integer.MAX_VALUE, Integer.MIN_VALUE};
        for (int n : bad) {
            Check.throwsException("end of an empty text", IllegalArgumentException.class, () -> c.writer.end(n));
        }
        c.writer.feed(1, 2, 3, 4, 5);
        c.writer.end(7);
        int[] beyond = {8, 20, -1, Integer.MAX_VALUE, Integer.MIN_VALUE};
        for (int n : beyond) {
            Check.throwsException("end(" + n + ") of seven", IllegalArgumentException.class, () -> c.writer.end(n));
            Check.same("seven stay", c.writer.count(0), 7);
        }
    }

    // "Only the first n bytes of THE TEXT stay"
    private static void endLeavesTheFirstBytes() {
        for (int n = 0; n <= 20; n++) {
            Check c = new Check(0).feedText("abcdefghijklmnopqrst");
            Check.same("end", c.writer.end(n), n);
            c.feedText("XY").writes("", 0, "abcdefghijklmnopqrst".substring(0, n) + "XY");
        }
    }

    // "Else -1."
    private static void countOfAnythingElse() {
        Check c = new Check(0).groups(5).name(1, "n").set(1, "a");
        c.writes("$1$1$1", 0, "aaa").feedText("text");
        int[] due = {4, 3, 5, 1};
        for (int what = -70; what < 70; what++) {
            Check.same("count(" + what + ")", c.writer.count(what), what >= 0 && what <= 3 ? due[what] : -1);
        }
        int[] far = {256, 257, 1 << 16, Integer.MAX_VALUE, Integer.MIN_VALUE, Integer.MIN_VALUE + 1};
        for (int what : far) {
            Check.same("count(" + what + ")", c.writer.count(what), -1);
        }
    }
}
