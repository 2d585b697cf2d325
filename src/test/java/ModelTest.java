import java.nio.charset.StandardCharsets;
import java.util.Random;

/** All promises: runs of calls made at random, each answered by the program and by the Model alike. */
public final class ModelTest {
    private static final int RUNS = 12000;
    private static final int CALLS_MOST = 512;
    private static final String[] NAMES = {"a", "b", "ab", "_", "A1", "abcdefghijklmnopqrstuvwxyz_01234", "abcdefghijklmnopqrstuvwxyz_012345", "1a", "", "a-"};
    private static final String[] WORDS = {
        "x", "Ab", "1", ":", "-", "+", "}", "{", "*", "\u00e9", "\u00c9", "\u017f", "\u212a", "\u212b", "\u00b5", "\u03c2", "\u03c3", "\u0178", "\u0131",
        "\ud83d\ude00", "\u00df", "k", "S", "\u0100", "\u0451", "\n", "\0", "MARK", "E", "",
    };
    private static final String[] WORDS_INSIDE = {"", "", "\\}", "$$", "a", "\\u"};
    private static final String[] ESCAPES = {
        "\\U", "\\L", "\\E", "\\u", "\\l", "\\Q", "\\E", "\\a", "\\e", "\\f", "\\n", "\\r", "\\t", "\\cz", "\\c", "\\c\\", "\\0", "\\012", "\\o{101}",
        "\\o{", "\\x", "\\x4", "\\x61", "\\xe9", "\\x{e9}", "\\x{17f}", "\\x{10ffff}", "\\x{110000}", "\\x{d800}", "\\x{", "\\x{000000061}", "\\q", "\\1",
        "\\\\", "\\$", "\\}", "\\:", "\\{", "\\\u00e9", "\\",
    };
    private static final int[] OPTIONS = {0, 512, 512, 512, 1536, 2560, 3584, 3584, 3072, 1024, 4096, 7680, 1, -1, 8192, 511};

    private final Random random;
    private final ReplacementWriter program;
    private final Model model;
    private final boolean utf;
    private final StringBuilder told = new StringBuilder();
    private int calls = 0;

    /** A call of the program or of the model. */
    private interface Asked {
        long answer();
    }

    private ModelTest(int run) {
        random = new Random(run);
        program = new ReplacementWriter(run & 3);
        model = new Model(run & 3);
        utf = (run & 1) == 1;
    }

    public static void main(String[] args) {
        for (int run = 0; run < RUNS; run++) {
            new ModelTest(run).run(run);
        }
        Check.finish();
    }

    private void run(int run) {
        told.append("run ").append(run).append(':');
        int steps = random.nextInt(12) + 1;
        for (int i = 0; i < steps; i++) {
            step();
        }
    }

    private void ask(String what, Asked ofProgram, Asked ofModel) {
        calls++;
        if (calls <= CALLS_MOST) {
            String due = answered(ofModel);
            told.append(' ').append(what);
            Check.sameText(told.toString(), answered(ofProgram), due);
        }
    }

    private static String answered(Asked asked) {
        try {
            return Long.toString(asked.answer());
        } catch (RuntimeException e) {
            return "throws." + e.getClass().getSimpleName();
        }
    }

    private void step() {
        int n = random.nextInt(8) == 0 ? random.nextInt(12) - 3 : random.nextInt(4);
        switch (random.nextInt(10)) {
            case 0:
                int greatest = random.nextInt(6) == 0 ? random.nextInt(104) - 2 : 3;
                ask("groups " + greatest, () -> done(() -> program.groups(greatest)), () -> model.groups(greatest));
                break;
            case 1:
                ask("unset " + n, () -> done(() -> program.unset(n)), () -> model.unset(n));
                break;
            case 2:
            case 3:
                feed(plainText());
                ask("set " + n, () -> program.set(n), () -> model.set(n));
                break;
            case 4:
            case 5:
                feed(one(NAMES));
                ask("name " + n, () -> program.name(n), () -> model.name(n));
                break;
            case 6:
                feed(plainText());
                ask("mark", () -> program.mark(), () -> model.mark());
                break;
            default:
                write();
                break;
        }
        lookAround();
    }

    private static long done(Check.Call call) {
        call.run();
        return 0;
    }

    private void write() {
        int kind = random.nextInt(12);
        feed(kind < 4 ? anyText() : kind == 4 ? deepText() : partText(0));
        int options = OPTIONS[random.nextInt(OPTIONS.length)];
        ask("write " + options, () -> program.write(options), () -> model.write(options));
        for (int i = 0; i < Math.min(60, model.count(1)); i++) {
            int index = i;
            ask("result " + i, () -> program.result(index), () -> model.result(index));
        }
    }

    private void lookAround() {
        for (int what = 0; what < 4; what++) {
            int counted = what;
            ask("count " + what, () -> program.count(counted), () -> model.count(counted));
        }
        ask("fault 0", () -> program.fault(0), () -> model.fault(0));
        ask("fault 1", () -> program.fault(1), () -> model.fault(1));
        int odd = random.nextInt();
        int index = random.nextInt(40) - 2;
        ask("count " + odd, () -> program.count(odd), () -> model.count(odd));
        ask("fault " + odd, () -> program.fault(odd), () -> model.fault(odd));
        ask("result " + index, () -> program.result(index), () -> model.result(index));
        ask("end " + index, () -> program.end(index), () -> model.end(index));
    }

    private void feed(String text) {
        byte[] bytes = text.getBytes(utf ? StandardCharsets.UTF_8 : StandardCharsets.ISO_8859_1);
        if (random.nextInt(10) == 0 && bytes.length > 0) {
            bytes[random.nextInt(bytes.length)] = (byte) random.nextInt();
        }
        int before = model.count(0);
        for (int at = 0; at < bytes.length; at += 20) {
            int[] five = new int[5];
            for (int i = 0; i < 20; i++) {
                five[i / 4] = five[i / 4] << 8 | (at + i < bytes.length ? bytes[at + i] & 255 : 0);
            }
            ask("feed", () -> program.feed(five[0], five[1], five[2], five[3], five[4]), () -> model.feed(five[0], five[1], five[2], five[3], five[4]));
        }
        int length = before + bytes.length;
        ask("end " + length + " <" + text + ">", () -> program.end(length), () -> model.end(length));
    }

    private String one(String[] texts) {
        return texts[random.nextInt(texts.length)];
    }

    private String plainText() {
        StringBuilder text = new StringBuilder();
        for (int i = random.nextInt(4); i > 0; i--) {
            text.append(one(WORDS));
        }
        return text.toString();
    }

    /** Signs that are mostly out of place. */
    private String anyText() {
        String[] signs = {"$", "${", "{", "}", ":", ":-", ":+", "\\", "1", "a", "*MARK", "$1", "${1:-", "${a:+", "\\Q", "\\E", "\\u", "$$"};
        StringBuilder text = new StringBuilder();
        for (int i = random.nextInt(10); i >= 0; i--) {
            text.append(random.nextInt(4) == 0 ? one(ESCAPES) : random.nextInt(4) == 0 ? one(WORDS) : one(signs));
        }
        return text.toString();
    }

    /** A text whose forms are mostly as they must be. */
    private String partText(int deep) {
        StringBuilder text = new StringBuilder();
        for (int i = random.nextInt(deep == 0 ? 6 : 3); i >= 0; i--) {
            int kind = random.nextInt(12);
            if (kind < 3) {
                text.append(one(WORDS));
            } else if (kind < 6) {
                text.append(one(ESCAPES));
            } else {
                text.append(reference(kind, deep));
            }
        }
        return text.toString();
    }

    /** Forms about as deep in one another as may be. */
    private String deepText() {
        StringBuilder text = new StringBuilder();
        StringBuilder closing = new StringBuilder();
        for (int i = 17 + random.nextInt(6); i > 0; i--) {
            boolean plus = random.nextInt(3) == 0;
            text.append(one(WORDS_INSIDE)).append("${").append(random.nextInt(4)).append(plus ? ":+" : ":-");
            closing.insert(0, plus && random.nextBoolean() ? ":y}" : "}");
        }
        return text.append(partText(30)).append(closing).toString();
    }

    private String reference(int kind, int deep) {
        String whom = random.nextInt(2) == 0 ? one(NAMES) : Integer.toString(random.nextInt(12) == 0 ? 65540 : random.nextInt(5));
        switch (deep > 22 ? 6 : kind) {
            case 6:
                return "$" + whom;
            case 7:
                return "${" + whom + "}";
            case 8:
                return random.nextBoolean() ? "$*MARK" : "${*MARK}";
            case 9:
                return "${" + whom + ":-" + partText(deep + 1) + "}";
            case 10:
                return "${" + whom + ":+" + partText(deep + 1) + ":" + partText(deep + 1) + "}";
            default:
                return random.nextInt(4) == 0 ? "$$" : "${" + whom + ":+" + partText(deep + 1) + "}";
        }
    }
}
