import java.util.ArrayList;
import java.util.List;
import java.util.TreeSet;

/** Promises 9 and 13: what is turned into upper and lower case; the table is made from the document's own words. */
public final class CaseTest {
    private static final int RICH = Check.RICH;
    private static final int LAST = 0x2200;
    private static final int CHUNK = 100;

    private static final TreeSet<Integer> LU = ranges("41-5A C0-D6 D8-DE 391-3A1 3A3-3A9 400-42F 178 212A 212B");
    private static final TreeSet<Integer> LL = ranges("61-7A B5 DF-F6 F8-FF 138 149 17F 3B1-3C9 430-45F");
    private static final List<TreeSet<Integer>> CASES = new ArrayList<>();

    public static void main(String[] args) {
        makeTable();
        for (int mode = 0; mode < 4; mode++) {
            everyCharacterIsTurned(mode);
        }
        turnsGoOn();
        turnsOfTheNext();
        turnsMeetEverySource();
        turnsAndQuotes();
        turnsAndParts();
        turnsEndWithTheWrite();
        Check.finish();
    }

    private static TreeSet<Integer> ranges(String words) {
        TreeSet<Integer> found = new TreeSet<>();
        for (String word : words.split(" ")) {
            String[] ends = word.split("-");
            for (int c = Integer.parseInt(ends[0], 16); c <= Integer.parseInt(ends[ends.length - 1], 16); c++) {
                found.add(c);
            }
        }
        return found;
    }

    private static void makeTable() {
        ranges("100-137 14A-177").forEach(c -> (c % 2 == 0 ? LU : LL).add(c));
        ranges("139-148 179-17E").forEach(c -> (c % 2 == 1 ? LU : LL).add(c));
        ranges("41-5A C0-D6 D8-DE 391-3A1 3A3-3A9 410-42F").forEach(c -> oneCase(c, c + 0x20));
        ranges("400-40F").forEach(c -> oneCase(c, c + 0x50));
        ranges("100-12F 132-137 139-148 14A-177 179-17E").forEach(c -> {
            if (LU.contains(c)) {
                oneCase(c, c + 1);
            }
        });
        oneCase(0x178, 0xFF);
        oneCase(0x17F, 0x53, 0x73);
        oneCase(0x212A, 0x4B, 0x6B);
        oneCase(0x212B, 0xC5, 0xE5);
        oneCase(0xB5, 0x39C, 0x3BC);
        oneCase(0x3C2, 0x3A3, 0x3C3);
    }

    private static void oneCase(int... characters) {
        TreeSet<Integer> joined = new TreeSet<>();
        for (int c : characters) {
            joined.add(c);
            CASES.stream().filter(known -> known.contains(c)).forEach(joined::addAll);
        }
        CASES.removeIf(known -> joined.contains(known.first()));
        CASES.add(joined);
    }

    private static TreeSet<Integer> caseOf(int character, int mode) {
        boolean utf = (mode & 1) != 0;
        TreeSet<Integer> found = new TreeSet<>();
        for (TreeSet<Integer> known : CASES) {
            if (known.contains(character)) {
                found.addAll(known);
            }
        }
        if (mode == 0) {
            found.removeIf(c -> c > 0x7F);
        } else if (!utf) {
            found.removeIf(c -> c > 0xFF);
        }
        return found;
    }

    private static int lower(int character, int mode) {
        for (int c : caseOf(character, mode)) {
            if (LU.contains(character) && LL.contains(c) && c != 0x17F && c != 0xB5 && c != 0x3C2) {
                return c;
            }
        }
        return character;
    }

    private static int upper(int character, int mode) {
        for (int c : caseOf(character, mode)) {
            if (LL.contains(character) && LU.contains(c)) {
                return c;
            }
        }
        return character;
    }

    private static void everyCharacterIsTurned(int mode) {
        int last = (mode & 1) != 0 ? LAST : 0xFF;
        for (int from = 0; from <= last; from += CHUNK) {
            StringBuilder text = new StringBuilder();
            StringBuilder uppers = new StringBuilder();
            StringBuilder lowers = new StringBuilder();
            for (int c = from; c < from + CHUNK && c <= last; c++) {
                text.append((char) c);
                uppers.append((char) upper(c, mode));
                lowers.append((char) lower(c, mode));
            }
            new Check(mode).set(0, text.toString()).writes("\\U$0", RICH, uppers.toString());
            new Check(mode).set(0, text.toString()).writes("\\L$0", RICH, lowers.toString());
        }
    }

    private static Check hello() {
        return new Check(3).groups(2).set(1, "Hello").set(2, "stra\u00dfE \u03c3\u03b1\u03c2 \u0178k").mark("\u015d");
    }

    private static void turnsGoOn() {
        Check c = hello();
        c.writes("\\U$1\\E$1", RICH, "HELLOHello").writes("\\U$1\\L$1\\U$1", RICH, "HELLOhelloHELLO");
        c.writes("\\U$2", RICH, "STRA\u00dfE \u03a3\u0391\u03a3 \u0178K").writes("\\L$2", RICH, "stra\u00dfe \u03c3\u03b1\u03c2 \u00ffk");
        c.writes("a\\Ub\\Ec\\LD\\EE", RICH, "aBcdE").writes("\\U", RICH, "");
    }

    private static void turnsOfTheNext() {
        Check c = hello();
        c.writes("\\uabc\\lABC", RICH, "AbcaBC").writes("\\u\\LhELLO", RICH, "Hello").writes("\\L\\uhELLO", RICH, "Hello");
        c.writes("\\l\\Uhello\\lHe", RICH, "hELLOhE").writes("\\u\\Eabc", RICH, "Abc").writes("\\u\\lABC\\l\\uabc", RICH, "aBCAbc");
        c.writes("\\u 1a", RICH, " 1a").writes("\\u$*MARK\\l", RICH, "\u015c").writes("ab\\u", RICH, "ab");
        new Check(1).set(0, "").writes("\\u$0abc", RICH, "Abc").writes("\\u\\Q\\Eabc", RICH, "Abc").writes("\\u\u017fx", RICH, "Sx");
    }

    private static void turnsMeetEverySource() {
        Check c = hello();
        c.writes("\\Ua$1\\x61\\x{e9}\\o{141}", RICH, "AHELLOA\u00c9A").writes("\\U$*MARK${*MARK}", RICH, "\u015c\u015c");
        c.writes("\\U\\\u00e9\\061\\n", RICH, "\u00c91\n").writes("\\L${1:+A${1}B}", RICH, "ahellob").writes("\\L\\c!", RICH, "a");
        c.writes("\\u\\x{3c3}\\l\\x{212a}", RICH, "\u03a3k");
    }

    private static void turnsAndQuotes() {
        Check c = hello();
        c.writes("\\U\\Qa$1\\Eb\\Ec", RICH, "A$1Bc").writes("\\u\\Qab\\Ec", RICH, "Abc").writes("\\L\\QA\\U\\EB", RICH, "a\\ub");
        c.writes("\\l\\QAB", RICH, "aB").writes("\\Q\\U\\Ea", RICH, "\\Ua");
    }

    private static void turnsAndParts() {
        Check c = hello();
        c.writes("${1:+\\Ua}b\\Ec", RICH, "ABc").writes("\\U${1:+a\\Eb}c", RICH, "Abc").writes("${1:+\\u}ab", RICH, "Ab");
        c.writes("\\U${0:-\\Qa}b", RICH, "AB");
    }

    private static void turnsEndWithTheWrite() {
        Check c = hello();
        c.writes("\\Ua\\l", RICH, "A").writes("Ab", RICH, "Ab").fails("\\U\\l$", RICH, -35, 4).writes("Ab", 0, "Ab");
        c.writes("\\La\\u", RICH, "a").writes("aB", Check.PLAIN, "aB");
    }
}
