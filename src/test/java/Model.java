import java.io.ByteArrayOutputStream;
import java.nio.ByteBuffer;
import java.nio.CharBuffer;
import java.nio.charset.Charset;
import java.nio.charset.CharsetDecoder;
import java.nio.charset.StandardCharsets;
import java.util.Arrays;
import java.util.TreeMap;
import java.util.TreeSet;
import java.util.regex.Matcher;
import java.util.regex.Pattern;

/** The document a second time: as plain as can be, with all of the Java library, and with nothing of the program in it. */
final class Model {
    private static final String NAME = "[A-Za-z_][A-Za-z0-9_]{0,31}";
    private static final Pattern REFERENCE = Pattern.compile("\\$(?:([0-9]+|" + NAME + ")|\\{([0-9]+|" + NAME + ")(\\}|:-|:\\+)?)");
    private static final Pattern MARK = Pattern.compile("\\$(?:\\*MARK|\\{\\*MARK(\\}?))");
    private static final Pattern QUOTE = Pattern.compile("\\\\Q(.*?)(?:\\\\E|\\z)", Pattern.DOTALL);
    private static final Pattern OCTAL = Pattern.compile("\\\\(?:0([0-7]{0,2})|o\\{([0-7]{1,8})\\})");
    private static final Pattern HEXADECIMAL = Pattern.compile("\\\\x(?:\\{([0-9A-Fa-f]{1,8})\\}|(?!\\{)([0-9A-Fa-f]{0,2}))");
    private static final Pattern CONTROL = Pattern.compile("\\\\c([\\x20-\\x7E])");
    private static final Pattern SIGN = Pattern.compile("\\\\([^A-Za-z0-9])", Pattern.DOTALL);

    private final boolean utf;
    private final boolean ucp;
    private final Charset charset;
    private byte[] text = {};
    private int greatest = 0;
    private final TreeMap<Integer, String> held = new TreeMap<>();
    private final TreeMap<String, TreeSet<Integer>> names = new TreeMap<>();
    private int namesGiven = 0;
    private String mark = "";
    private byte[] result = {};
    private int code = 0;
    private int offset = -1;

    private int options;
    private String writing;
    private final ByteArrayOutputStream written = new ByteArrayOutputStream();
    private char steady;
    private char next;

    /** A code met in writing. */
    private static final class Met extends RuntimeException {
        private static final long serialVersionUID = 1L;
        private final int code;
        private final int at;

        Met(int code, int at) {
            super(null, null, false, false);
            this.code = code;
            this.at = at;
        }
    }

    Model(int mode) {
        utf = (mode & 1) == 1;
        ucp = (mode & 2) == 2;
        charset = utf ? StandardCharsets.UTF_8 : StandardCharsets.ISO_8859_1;
    }

    int feed(int a, int b, int c, int d, int e) {
        require(text.length <= 65536 - 20, new IllegalStateException());
        ByteBuffer longer = ByteBuffer.allocate(text.length + 20).put(text);
        text = longer.putInt(a).putInt(b).putInt(c).putInt(d).putInt(e).array();
        return text.length;
    }

    int end(int n) {
        require(n >= 0 && n <= text.length, new IllegalArgumentException());
        text = Arrays.copyOf(text, n);
        return n;
    }

    int groups(int n) {
        require(n >= 0 && n <= 99, new IllegalArgumentException());
        greatest = n;
        held.clear();
        names.clear();
        namesGiven = 0;
        mark = "";
        return 0;
    }

    int set(int n) {
        require(n >= 0 && n <= greatest, new IllegalArgumentException());
        String taken = takenText();
        held.put(n, taken);
        return taken.codePointCount(0, taken.length());
    }

    int unset(int n) {
        require(n >= 0 && n <= greatest, new IllegalArgumentException());
        held.remove(n);
        return 0;
    }

    int name(int n) {
        require(n >= 1 && n <= greatest, new IllegalArgumentException());
        String taken = new String(text, StandardCharsets.ISO_8859_1);
        text = new byte[0];
        require(taken.matches(NAME), new UnsupportedOperationException());
        names.computeIfAbsent(taken, unknown -> new TreeSet<>()).add(n);
        return ++namesGiven;
    }

    int mark() {
        mark = takenText();
        return mark.codePointCount(0, mark.length());
    }

    int result(int i) {
        require(i >= 0 && i < result.length, new IndexOutOfBoundsException());
        return result[i] & 255;
    }

    int fault(int what) {
        require(what == 0 || what == 1, new IllegalArgumentException());
        return what == 0 ? code : offset;
    }

    int count(int what) {
        int[] counts = {text.length, result.length, greatest, namesGiven};
        return what >= 0 && what < counts.length ? counts[what] : -1;
    }

    int write(int newOptions) {
        require((newOptions & (512 + 1024 + 2048 + 4096)) == newOptions, new IllegalArgumentException());
        options = newOptions;
        int bad = firstBad();
        String all = new String(text, charset);
        text = new byte[0];
        result = text;
        try {
            if (bad >= 0) {
                throw new Met(-3, bad);
            }
            result = has(4096) ? all.getBytes(charset) : writtenWhole(all);
            code = 0;
            offset = -1;
            return result.length;
        } catch (Met met) {
            code = met.code;
            offset = met.code == -3 || met.code == -48 ? met.at : all.substring(0, met.at).getBytes(charset).length;
            return code;
        }
    }

    private static void require(boolean holds, RuntimeException otherwise) {
        if (!holds) {
            throw otherwise;
        }
    }

    private String takenText() {
        boolean isGood = firstBad() < 0;
        String taken = new String(text, charset);
        text = new byte[0];
        require(isGood, new UnsupportedOperationException());
        return taken;
    }

    private int firstBad() {
        CharsetDecoder decoder = charset.newDecoder();
        ByteBuffer bytes = ByteBuffer.wrap(text);
        return decoder.decode(bytes, CharBuffer.allocate(text.length + 1), true).isError() ? bytes.position() : -1;
    }

    private boolean has(int option) {
        return (options & option) != 0;
    }

    private byte[] writtenWhole(String all) {
        writing = all;
        written.reset();
        steady = 'E';
        next = 'E';
        part(0, all.length(), 0);
        return written.toByteArray();
    }

    private void part(int from, int to, int deep) {
        for (int at = from; at < to;) {
            char c = writing.charAt(at);
            if (c == '$') {
                at = dollar(at, to, deep);
            } else if (c == '\\' && has(512)) {
                at = backslash(at, to);
            } else {
                int character = writing.codePointAt(at);
                emit(character);
                at += Character.charCount(character);
            }
        }
    }

    private boolean begins(Matcher matcher, int at, int to) {
        return matcher.region(at, to).lookingAt();
    }

    private int dollar(int at, int to, int deep) {
        if (at + 1 < to && writing.charAt(at + 1) == '$') {
            emit('$');
            return at + 2;
        }
        Matcher star = MARK.matcher(writing);
        if (begins(star, at, to)) {
            require(star.group(1) == null || star.group(1).equals("}"), new Met(-58, at));
            emitAll(mark);
            return star.end();
        }
        Matcher reference = REFERENCE.matcher(writing);
        require(begins(reference, at, to), new Met(-35, at));
        if (reference.group(1) != null) {
            emitAll(matched(reference.group(1), at));
            return reference.end();
        }
        String sign = reference.group(3);
        require(sign != null && (sign.equals("}") || has(512)), new Met(-58, at));
        if (sign.equals("}")) {
            emitAll(matched(reference.group(2), at));
            return reference.end();
        }
        return choice(at, reference.end(), to, deep, reference.group(2), sign.equals(":+"));
    }

    private int choice(int at, int one, int to, int deep, String whom, boolean plus) {
        int oneEnd = partEnd(one, to, plus ? ":}" : "}");
        require(oneEnd < to, new Met(-58, at));
        boolean hasTwo = writing.charAt(oneEnd) == ':';
        int close = hasTwo ? partEnd(oneEnd + 1, to, "}") : oneEnd;
        require(close < to, new Met(-58, at));
        require(deep < 20, new Met(-35, at));
        String found = foundFor(whom, at);
        if (found == null && !plus || found != null && plus) {
            part(one, oneEnd, deep + 1);
        } else if (plus && hasTwo) {
            part(oneEnd + 1, close, deep + 1);
        } else if (!plus) {
            emitAll(found);
        }
        return close + 1;
    }

    /** The first of the ends that is not inside of another ${ } or behind a backslash; at least to if there is none. */
    private int partEnd(int from, int to, String ends) {
        int at = from;
        while (at < to && ends.indexOf(writing.charAt(at)) < 0) {
            if (writing.charAt(at) == '\\') {
                at += 2;
            } else if (writing.startsWith("${", at) && at + 1 < to) {
                at = partEnd(at + 2, to, "}") + 1;
            } else {
                at++;
            }
        }
        return at;
    }

    /** What the group holds, null if it is unset. */
    private String foundFor(String whom, int at) {
        TreeSet<Integer> candidates = new TreeSet<>();
        if (Character.isDigit(whom.charAt(0))) {
            int number = new java.math.BigInteger(whom).min(java.math.BigInteger.valueOf(65535)).intValue();
            if (number <= greatest) {
                candidates.add(number);
            }
        } else {
            candidates.addAll(names.getOrDefault(whom, candidates));
        }
        require(!candidates.isEmpty() || has(2048), new Met(-49, at));
        candidates.retainAll(held.keySet());
        return candidates.isEmpty() ? null : held.get(candidates.first());
    }

    private String matched(String whom, int at) {
        String found = foundFor(whom, at);
        require(found != null || has(1024), new Met(-55, at));
        return found == null ? "" : found;
    }

    private int backslash(int at, int to) {
        char c = at + 1 < to ? writing.charAt(at + 1) : ' ';
        int simple = "aefnrt".indexOf(c);
        if (simple >= 0) {
            emit("\u0007\u001B\f\n\r\t".charAt(simple));
            return at + 2;
        }
        if ("ULE".indexOf(c) >= 0) {
            steady = c;
            return at + 2;
        }
        if ("ul".indexOf(c) >= 0) {
            next = Character.toUpperCase(c);
            return at + 2;
        }
        Matcher quote = QUOTE.matcher(writing);
        if (begins(quote, at, to)) {
            emitAll(quote.group(1));
            return quote.end();
        }
        return numbered(at, to);
    }

    private int numbered(int at, int to) {
        Matcher sign = SIGN.matcher(writing);
        if (begins(sign, at, to)) {
            emitAll(sign.group(1));
            return sign.end();
        }
        Matcher control = CONTROL.matcher(writing);
        if (begins(control, at, to)) {
            emit(control.group(1).toUpperCase(java.util.Locale.ROOT).charAt(0) ^ 0x40);
            return control.end();
        }
        Matcher octal = OCTAL.matcher(writing);
        Matcher hexadecimal = HEXADECIMAL.matcher(writing);
        boolean isOctal = begins(octal, at, to);
        require(isOctal || begins(hexadecimal, at, to), new Met(-57, at));
        Matcher found = isOctal ? octal : hexadecimal;
        String digits = found.group(1) != null ? found.group(1) : found.group(2);
        long character = Long.parseLong("0" + digits, isOctal ? 8 : 16);
        require(character <= (utf ? 0x10FFFF : 0xFF) && (character < 0xD800 || character > 0xDFFF), new Met(-57, at));
        emit((int) character);
        return found.end();
    }

    private void emitAll(String characters) {
        characters.codePoints().forEach(this::emit);
    }

    private void emit(int character) {
        char turn = next != 'E' ? next : steady;
        next = 'E';
        int turned = turn == 'U' ? upper(character) : turn == 'L' ? lower(character) : character;
        written.writeBytes(new String(Character.toChars(turned)).getBytes(charset));
        require(written.size() <= 262144, new Met(-48, -1));
    }

    private int upper(int character) {
        TreeSet<Integer> uppers = new TreeSet<>(caseOf(character));
        uppers.removeIf(c -> !category(c).equals("Lu"));
        return category(character).equals("Ll") && !uppers.isEmpty() ? uppers.first() : character;
    }

    private int lower(int character) {
        TreeSet<Integer> lowers = new TreeSet<>(caseOf(character));
        lowers.removeIf(c -> !category(c).equals("Ll") || c == 0x17F || c == 0xB5 || c == 0x3C2);
        return category(character).equals("Lu") && !lowers.isEmpty() ? lowers.first() : character;
    }

    /** All that are one CASE with a character in this mode, itself among them. */
    private TreeSet<Integer> caseOf(int character) {
        TreeSet<Integer> one = new TreeSet<>();
        one.add(character);
        if (!utf && !ucp && !isAsciiLetter(character)) {
            return one;
        }
        for (int other = 0x41; other <= (utf ? 0x212B : 0xFF); other = other == 0x45F ? 0x212A : other + 1) {
            if ((utf || ucp || isAsciiLetter(other)) && root(other) == root(character)) {
                one.add(other);
            }
        }
        return one;
    }

    private static boolean isAsciiLetter(int c) {
        return c >= 'A' && c <= 'Z' || c >= 'a' && c <= 'z';
    }

    private static boolean in(int c, int... ends) {
        for (int i = 0; i < ends.length; i += 2) {
            if (c >= ends[i] && c <= ends[i + 1]) {
                return true;
            }
        }
        return false;
    }

    private static boolean isBesideItsOther(int c) {
        return in(c, 0x100, 0x12F, 0x132, 0x137, 0x139, 0x148, 0x14A, 0x177, 0x179, 0x17E);
    }

    /** One character that stands for all of a CASE. */
    private static int root(int c) {
        int[] odd = {0xFF, 0x178, 0x17F, 0x53, 0x212A, 0x4B, 0x212B, 0xC5, 0xB5, 0x39C, 0x3C2, 0x3A3};
        for (int i = 0; i < odd.length; i += 2) {
            if (c == odd[i]) {
                return odd[i + 1];
            }
        }
        if (in(c, 0x61, 0x7A, 0xE0, 0xF6, 0xF8, 0xFE, 0x3B1, 0x3C1, 0x3C3, 0x3C9, 0x430, 0x44F)) {
            return c - 0x20;
        }
        if (in(c, 0x450, 0x45F)) {
            return c - 0x50;
        }
        return isBesideItsOther(c) && category(c).equals("Ll") ? c - 1 : c;
    }

    private static String category(int c) {
        if (in(c, 0x100, 0x137, 0x14A, 0x177)) {
            return c % 2 == 0 ? "Lu" : "Ll";
        }
        if (in(c, 0x139, 0x148, 0x179, 0x17E)) {
            return c % 2 == 1 ? "Lu" : "Ll";
        }
        if (in(c, 0x41, 0x5A, 0xC0, 0xD6, 0xD8, 0xDE, 0x391, 0x3A1, 0x3A3, 0x3A9, 0x400, 0x42F, 0x178, 0x178, 0x212A, 0x212B)) {
            return "Lu";
        }
        boolean isLower = in(c, 0x61, 0x7A, 0xB5, 0xB5, 0xDF, 0xF6, 0xF8, 0xFF, 0x3B1, 0x3C9, 0x430, 0x45F, 0x138, 0x138, 0x149, 0x149, 0x17F, 0x17F);
        return isLower ? "Ll" : "other";
    }
}
