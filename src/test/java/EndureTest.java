import java.util.Random;

/** Any calls in any order: nothing is thrown but what the document tells, and the state stays in order. */
public final class EndureTest {
    private static final String[] PIECES = {
        "$", "{", "}", ":", "-", "+", "\\", "1", "2", "9", "a", "b", "*MARK", "${", "${1:-", "${2:+", "${a:+", ":-", ":+",
        "\\U", "\\L", "\\E", "\\Q", "\\u", "\\l", "\\x", "\\x{", "\\o{", "\\0", "\\c", "41", "\u00e9", "\u00ff", "\u00c3\u00a9",
        "\u00e2\u0084\u00aa", "$1", "$a", "x", "Y", "$$", "\\n", "\\q", " ",
    };
    private static final int[] OPTIONS = {0, 512, 512, 512, 1536, 2560, 3584, 3072, 4096, 7680, 1, -1};
    private static final int OBJECTS = 3000;
    private static final int STEPS = 60;

    public static void main(String[] args) {
        Random random = new Random(20261115);
        for (int i = 0; i < OBJECTS; i++) {
            Check c = new Check(i & 3);
            for (int step = 0; step < STEPS; step++) {
                anyCall(c, random);
            }
        }
        Check.finish();
    }

    private static void anyCall(Check c, Random random) {
        int n = random.nextInt(6) - 1;
        switch (random.nextInt(12)) {
            case 0:
                allowed("end", () -> c.writer.end(random.nextInt(30) - 2), IllegalArgumentException.class, null);
                break;
            case 1:
                allowed("groups", () -> c.writer.groups(random.nextInt(4) == 0 ? 100 : 3), IllegalArgumentException.class, null);
                break;
            case 2:
                allowed("set", () -> c.writer.set(n), IllegalArgumentException.class, UnsupportedOperationException.class);
                break;
            case 3:
                allowed("unset", () -> c.writer.unset(n), IllegalArgumentException.class, null);
                break;
            case 4:
                allowed("name", () -> c.writer.name(n), IllegalArgumentException.class, UnsupportedOperationException.class);
                break;
            case 5:
                allowed("mark", () -> c.writer.mark(), UnsupportedOperationException.class, null);
                break;
            case 6:
                allowed("result", () -> c.writer.result(random.nextInt(40) - 1), IndexOutOfBoundsException.class, null);
                break;
            case 7:
                allowed("fault", () -> c.writer.fault(n), IllegalArgumentException.class, null);
                break;
            case 8:
                c.writer.count(n);
                break;
            case 9:
                c.feedBytes(new byte[] {'a'});
                break;
            default:
                writeAnything(c, random);
                break;
        }
    }

    private static void writeAnything(Check c, Random random) {
        StringBuilder text = new StringBuilder();
        for (int i = random.nextInt(12); i >= 0; i--) {
            text.append(PIECES[random.nextInt(PIECES.length)]);
        }
        c.feedBytes(text.toString().getBytes(java.nio.charset.StandardCharsets.ISO_8859_1));
        int before = c.writer.count(0);
        int options = OPTIONS[random.nextInt(OPTIONS.length)];
        boolean[] done = {false};
        int[] answer = {0};
        allowed("write of " + text, () -> {
            answer[0] = c.writer.write(options);
            done[0] = true;
        }, IllegalArgumentException.class, null);
        if (done[0]) {
            Check.same("the text is taken", c.writer.count(0), 0);
            Check.same("fault(0) of " + text, c.writer.fault(0), Math.min(0, answer[0]));
            Check.same("count(1) of " + text, c.writer.count(1), Math.max(0, answer[0]));
            boolean isInside = c.writer.fault(1) >= 0 && c.writer.fault(1) < before;
            Check.same("fault(1) is inside of " + text, isInside ? 1 : 0, answer[0] < 0 ? 1 : 0);
        } else {
            Check.same("the text stays", c.writer.count(0), before);
        }
    }

    private static void allowed(String what, Check.Call call, Class<?> one, Class<?> other) {
        boolean isAllowed = true;
        try {
            call.run();
        } catch (RuntimeException e) {
            isAllowed = e.getClass() == one || e.getClass() == other;
        }
        Check.same(what + " throws only what it may", isAllowed ? 1 : 0, 1);
    }
}
