import java.nio.charset.Charset;
import java.nio.charset.StandardCharsets;

/** One ReplacementWriter under test; every answer that is not due is printed and counted. */
final class Check {
    static final int RICH = 512;
    static final int EMPTY = 1024;
    static final int UNKNOWN = 2048;
    static final int PLAIN = 4096;

    private static int wrong = 0;
    private static int looked = 0;

    final ReplacementWriter writer;
    private final Charset charset;

    /** A call of the face, without what it answers. */
    interface Call {
        void run();
    }

    Check(int mode) {
        writer = new ReplacementWriter(mode);
        charset = (mode & 1) != 0 ? StandardCharsets.UTF_8 : StandardCharsets.ISO_8859_1;
    }

    static void same(String what, long got, long due) {
        looked++;
        if (got != due) {
            wrong++;
            System.out.println(what + " answered " + got + ", due is " + due);
        }
    }

    static void sameText(String what, String got, String due) {
        looked++;
        if (!got.equals(due)) {
            wrong++;
            System.out.println(what + " answered <" + got + ">, due is <" + due + ">");
        }
    }

    static void throwsException(String what, Class<? extends RuntimeException> due, Call call) {
        looked++;
        String got = "nothing";
        try {
            call.run();
        } catch (RuntimeException e) {
            got = e.getClass().getSimpleName();
        }
        if (!got.equals(due.getSimpleName())) {
            wrong++;
            System.out.println(what + " threw " + got + ", due is " + due.getSimpleName());
        }
    }

    /** To be called at the end of each test's main. */
    static void finish() {
        System.out.println(looked + " answers looked at, " + wrong + " not as due");
        if (wrong != 0 || looked == 0) {
            System.exit(1);
        }
    }

    /** Adds bytes to THE TEXT by feed and end; the odd ones come first, so that it can be filled to its last byte. */
    Check feedBytes(byte[] bytes) {
        int odd = bytes.length % 20;
        if (odd > 0) {
            writer.end(feedTwenty(bytes, 0) - 20 + odd);
        }
        for (int at = odd; at < bytes.length; at += 20) {
            feedTwenty(bytes, at);
        }
        return this;
    }

    private int feedTwenty(byte[] bytes, int at) {
        int[] fours = new int[5];
        for (int i = 0; i < 20; i++) {
            int value = at + i < bytes.length ? bytes[at + i] & 255 : 0;
            fours[i / 4] = fours[i / 4] << 8 | value;
        }
        return writer.feed(fours[0], fours[1], fours[2], fours[3], fours[4]);
    }

    Check feedText(String text) {
        return feedBytes(text.getBytes(charset));
    }

    Check set(int group, String text) {
        feedText(text).writer.set(group);
        return this;
    }

    Check name(int group, String name) {
        feedText(name).writer.name(group);
        return this;
    }

    Check mark(String text) {
        feedText(text).writer.mark();
        return this;
    }

    Check groups(int greatest) {
        writer.groups(greatest);
        return this;
    }

    byte[] result() {
        byte[] bytes = new byte[writer.count(1)];
        for (int i = 0; i < bytes.length; i++) {
            bytes[i] = (byte) writer.result(i);
        }
        return bytes;
    }

    /** THE RESULT, a character for each byte. */
    String resultAsBytes() {
        return new String(result(), StandardCharsets.ISO_8859_1);
    }

    /** The bytes of a text whose characters are 0 to FF. */
    static byte[] bytes(String text) {
        return text.getBytes(StandardCharsets.ISO_8859_1);
    }

    static boolean isLetter(int c) {
        return c >= 'A' && c <= 'Z' || c >= 'a' && c <= 'z';
    }

    static boolean isDigit(int c) {
        return c >= '0' && c <= '9';
    }

    /** The text is written without a code, and this is the result. */
    Check writes(String text, int options, String due) {
        String what = "write(" + options + ") of " + text;
        int dueLength = due.getBytes(charset).length;
        same(what, feedText(text).writer.write(options), dueLength);
        same(what + ": fault(0)", writer.fault(0), 0);
        same(what + ": fault(1)", writer.fault(1), -1);
        same(what + ": count(0)", writer.count(0), 0);
        same(what + ": count(1)", writer.count(1), dueLength);
        sameText(what, new String(result(), charset), due);
        return this;
    }

    /** Writing the text gives this code, told at this offset. */
    Check fails(String text, int options, int code, int offset) {
        return failsBytes(text.getBytes(charset), options, code, offset);
    }

    Check failsBytes(byte[] bytes, int options, int code, int offset) {
        String what = "write(" + options + ") of " + new String(bytes, StandardCharsets.ISO_8859_1);
        same(what, feedBytes(bytes).writer.write(options), code);
        same(what + ": fault(0)", writer.fault(0), code);
        same(what + ": fault(1)", writer.fault(1), offset);
        same(what + ": count(0)", writer.count(0), 0);
        same(what + ": count(1)", writer.count(1), 0);
        throwsException(what + ": result(0)", IndexOutOfBoundsException.class, () -> writer.result(0));
        return this;
    }
}
