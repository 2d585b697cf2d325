/** The edges that the document names in CASE, and of what turns the case. */
public final class EdgeCaseTest {
    private static final int RICH = Check.RICH;
    // The upper and the lower one of the first and the last of each range.
    private static final int[] PAIRS = {
        0x41, 0x61, 0x5A, 0x7A, 0xC0, 0xE0, 0xD6, 0xF6, 0xD8, 0xF8, 0xDE, 0xFE, 0x391, 0x3B1, 0x3A1, 0x3C1, 0x3A3, 0x3C3, 0x3A9, 0x3C9,
        0x410, 0x430, 0x42F, 0x44F, 0x400, 0x450, 0x40F, 0x45F, 0x100, 0x101, 0x12E, 0x12F, 0x132, 0x133, 0x136, 0x137, 0x139, 0x13A,
        0x147, 0x148, 0x14A, 0x14B, 0x176, 0x177, 0x179, 0x17A, 0x17D, 0x17E, 0x178, 0xFF, 0x53, 0x73, 0x4B, 0x6B, 0xC5, 0xE5, 0x39C, 0x3BC,
    };
    // What stands beside those ranges, and letters that Unicode has a case for but the document has not.
    private static final int[] WITHOUT = {
        0x40, 0x5B, 0x60, 0x7B, 0xAA, 0xBA, 0xBF, 0xD7, 0xDF, 0xF7, 0x130, 0x131, 0x138, 0x149, 0x180, 0x181, 0x1C4, 0x1C5, 0x1C6, 0x345,
        0x370, 0x386, 0x390, 0x3A2, 0x3AA, 0x3AC, 0x3B0, 0x3CA, 0x3CF, 0x3FF, 0x460, 0x461, 0x531, 0x561, 0x10A0, 0x1E00, 0x1E01, 0x1E9E,
        0x2126, 0x2129, 0x212C, 0x2160, 0x2170, 0x24B6, 0x24D0, 0xFF21, 0xFF41, 0xFFFF, 0x10400, 0x10428, 0x1E900, 0x10FFFF,
    };

    public static void main(String[] args) {
        firstAndLastOfEachRange();
        besideEachRange();
        thirdOnesOfTheirCase();
        withoutUtfToFFAlone();
        withNeitherOnlyAscii();
        turnedFromHereOn();
        turnedUntil();
        endOfAQuoteEndsNoTurn();
        nextCharacterAlone();
        nextCharacterThatIsWritten();
        nextBesideSteady();
        nextWithNothingBehind();
        everySourceIsTurned();
        quotesAreTurned();
        escapedCharactersAreTurned();
        turnsGoThroughParts();
        turnsEndWithTheWrite();
        Check.finish();
    }

    private static String text(int character) {
        return new String(Character.toChars(character));
    }

    private static void turns(int mode, int character, int upper, int lower) {
        Check c = new Check(mode).set(0, text(character));
        c.writes("\\U$0", RICH, text(upper)).writes("\\L$0", RICH, text(lower));
        c.writes("\\u$0$0", RICH, text(upper) + text(character)).writes("\\l$0$0", RICH, text(lower) + text(character));
    }

    private static void firstAndLastOfEachRange() {
        for (int mode = 1; mode <= 3; mode += 2) {
            for (int i = 0; i < PAIRS.length; i += 2) {
                turns(mode, PAIRS[i], PAIRS[i], PAIRS[i + 1]);
                turns(mode, PAIRS[i + 1], PAIRS[i], PAIRS[i + 1]);
            }
        }
    }

    // "without such, itself"
    private static void besideEachRange() {
        for (int mode = 1; mode <= 3; mode += 2) {
            for (int c : WITHOUT) {
                turns(mode, c, c, c);
            }
        }
    }

    // "that is not 17F, B5, 3C2", "the least Lu of its CASE"
    private static void thirdOnesOfTheirCase() {
        for (int mode = 1; mode <= 3; mode += 2) {
            turns(mode, 0x17F, 0x53, 0x17F);
            turns(mode, 0xB5, 0x39C, 0xB5);
            turns(mode, 0x3C2, 0x3A3, 0x3C2);
            turns(mode, 0x212A, 0x212A, 0x6B);
            turns(mode, 0x212B, 0x212B, 0xE5);
        }
    }

    // "without UTF only CHARACTERS to FF are there"
    private static void withoutUtfToFFAlone() {
        for (int i = 0; i < PAIRS.length; i += 2) {
            if (PAIRS[i] <= 0xFF && PAIRS[i + 1] <= 0xFF) {
                turns(2, PAIRS[i], PAIRS[i], PAIRS[i + 1]);
                turns(2, PAIRS[i + 1], PAIRS[i], PAIRS[i + 1]);
            }
        }
        int[] without = {0xFF, 0xB5, 0xDF, 0xD7, 0xF7, 0xBF, 0xAA, 0xBA, 0x80};
        for (int c : without) {
            turns(2, c, c, c);
        }
    }

    // "With neither UTF nor UCP only A-Z and a-z have CASES"
    private static void withNeitherOnlyAscii() {
        for (int c = 0; c <= 0xFF; c++) {
            int upper = c >= 'a' && c <= 'z' ? c - 0x20 : c;
            int lower = c >= 'A' && c <= 'Z' ? c + 0x20 : c;
            turns(0, c, upper, lower);
        }
    }

    private static Check words() {
        return new Check(0).groups(3).set(1, "aBc").set(2, "").mark("mK");
    }

    // "what is written from here on"
    private static void turnedFromHereOn() {
        words().writes("aB\\UaB", RICH, "aBAB").writes("aB\\LaB", RICH, "aBab").writes("\\U", RICH, "").writes("aB\\L", RICH, "aB").writes("\\UaB1!cD", RICH, "AB1!CD");
    }

    // "until \E, \U or \L"
    private static void turnedUntil() {
        words().writes("\\UaB\\EaB", RICH, "ABaB").writes("\\LaB\\EaB", RICH, "abaB").writes("\\UaB\\LaB", RICH, "ABab").writes("\\LaB\\UaB", RICH, "abAB");
        words().writes("\\UaB\\UaB", RICH, "ABAB").writes("\\U\\LaB\\EaB", RICH, "abaB").writes("\\U\\L\\EaB", RICH, "aB").writes("\\U\\EaB", RICH, "aB");
        words().writes("\\UaB\\E\\EaB\\LaB", RICH, "ABaBab");
    }

    private static void endOfAQuoteEndsNoTurn() {
        words().writes("\\U\\QaB\\EaB\\EaB", RICH, "ABABaB").writes("\\L\\Q\\EaB\\EaB", RICH, "abaB");
    }

    // "the next character that is written UPPER, LOWER"
    private static void nextCharacterAlone() {
        words().writes("\\uab", RICH, "Ab").writes("\\lAB", RICH, "aB").writes("\\u1a", RICH, "1a").writes("\\u$1\\u$1", RICH, "ABcABc").writes("\\ua\\lB\\uc", RICH, "AbC");
        new Check(1).writes("\\u\u00e9\u00e9\\l\u0178\u0178", RICH, "\u00c9\u00e9\u00ff\u0178");
    }

    private static void nextCharacterThatIsWritten() {
        words().writes("\\u$2ab", RICH, "Ab").writes("\\u${3:-}ab", RICH, "Ab").writes("\\u${1:+}ab", RICH, "Ab").writes("\\u\\Q\\Eab", RICH, "Ab").writes("\\u\\Eab", RICH, "Ab");
        words().writes("\\u$3ab", RICH | Check.EMPTY, "Ab").writes("\\u$9ab", RICH | Check.EMPTY | Check.UNKNOWN, "Ab");
        new Check(0).writes("\\u$*MARKab", RICH, "Ab");
    }

    private static void nextBesideSteady() {
        words().writes("\\u\\LaBc", RICH, "Abc").writes("\\L\\uaBc", RICH, "Abc").writes("\\l\\UaBc", RICH, "aBC").writes("\\U\\laBc", RICH, "aBC");
        words().writes("\\UaB\\lCd\\Ee", RICH, "ABcDe").writes("\\u\\lAB", RICH, "aB").writes("\\l\\uab", RICH, "Ab");
    }

    private static void nextWithNothingBehind() {
        words().writes("\\u", RICH, "").writes("a\\l", RICH, "a").writes("\\u\\l\\u", RICH, "").writes("a", RICH, "a").writes("A", 0, "A");
    }

    // "whatever its source"
    private static void everySourceIsTurned() {
        words().writes("\\Ua$1${1}", RICH, "AABCABC").writes("\\U$*MARK${*MARK}", RICH, "MKMK").writes("\\L$*MARK${*MARK}", RICH, "mkmk");
        words().writes("\\U${1:-x}${3:-x}", RICH, "ABCX").writes("\\L${1:+X:y}${3:+x:Y}", RICH, "xy").writes("\\u$*MARK\\l$1", RICH, "MKaBc");
        Check c = new Check(0).groups(1).name(1, "n").set(1, "aB");
        c.writes("\\U$n${n}\\L$n${n:-x}", RICH, "ABABabab");
    }

    // "\Q to \E: turned by" all four "too"
    private static void quotesAreTurned() {
        words().writes("\\U\\QaB$1\\E", RICH, "AB$1").writes("\\L\\QaB\\N\\E", RICH, "ab\\n").writes("\\u\\Qab\\E", RICH, "Ab").writes("\\l\\QAB\\E", RICH, "aB");
        words().writes("\\U\\Qa", RICH, "A").writes("\\Q\\UaB\\E\\u\\Qx", RICH, "\\UaBX").writes("\\L\\u\\QaB", RICH, "Ab");
    }

    private static void escapedCharactersAreTurned() {
        words().writes("\\U\\x61\\x{62}\\o{143}\\c!z", RICH, "ABCAZ").writes("\\L\\x41\\o{102}", RICH, "ab").writes("\\u\\x61a\\l\\x41A", RICH, "AaaA");
        new Check(3).writes("\\U\\x{e9}\\x{17f}\\\u00e9\\L\\x{212b}\\x{178}", RICH, "\u00c9S\u00c9\u00e5\u00ff");
        new Check(2).writes("\\U\\xe9\\\u00e9\\xff", RICH, "\u00c9\u00c9\u00ff");
    }

    private static void turnsGoThroughParts() {
        words().writes("\\U${3:-a}b", RICH, "AB").writes("${3:-\\Ua}b\\Ec", RICH, "ABc").writes("\\U${3:-a\\Eb}c", RICH, "Abc").writes("${3:-a\\u}bc", RICH, "aBc");
        words().writes("${1:-\\U}aB", RICH, "aBcaB").writes("${3:+\\U:\\L}AB", RICH, "ab");
    }

    private static void turnsEndWithTheWrite() {
        words().writes("\\Ua", RICH, "A").writes("aB", RICH, "aB").writes("a\\u", RICH, "a").writes("b", RICH, "b").fails("\\U\\l$9", RICH, -49, 4).writes("aB", 0, "aB");
    }
}
