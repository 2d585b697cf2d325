/** Promises 1, 2, 3 and 12: a new object, feed, end and count. */
public final class TextTest {
    public static void main(String[] args) {
        newObjectIsEmpty();
        modeBitsAreUtfAndUcp();
        feedTakesTheHighestByteFirst();
        feedRefusesWhatHasNoRoom();
        endKeepsTheFirstBytes();
        endRefusesWhatIsNotThere();
        countTellsTheState();
        Check.finish();
    }

    private static void newObjectIsEmpty() {
        for (int mode = 0; mode < 4; mode++) {
            Check c = new Check(mode);
            for (int what = 0; what < 4; what++) {
                Check.same("new count(" + what + ")", c.writer.count(what), 0);
            }
            Check.same("new fault(0)", c.writer.fault(0), 0);
            Check.same("new fault(1)", c.writer.fault(1), -1);
            Check.throwsException("new result(0)", IndexOutOfBoundsException.class, () -> c.writer.result(0));
            c.fails("$0", 0, -55, 0).fails("$1", 0, -49, 0).writes("<$*MARK>", 0, "<>");
        }
    }

    private static void modeBitsAreUtfAndUcp() {
        int[] modes = {0, 1, 2, 3, 4, 7, -4, -1};
        for (int mode : modes) {
            boolean utf = (mode & 1) != 0;
            boolean wide = (mode & 3) != 0;
            Check c = new Check(mode);
            c.feedText("\u00e9");
            Check.same("mode " + mode + ": bytes of e9", c.writer.count(0), utf ? 2 : 1);
            Check.same("mode " + mode + ": characters", c.writer.set(0), 1);
            c.writes("\\U$0", Check.RICH, wide ? "\u00c9" : "\u00e9");
        }
    }

    private static void feedTakesTheHighestByteFirst() {
        Check c = new Check(0);
        Check.same("feed", c.writer.feed(0x41424344, 0x45464748, 0x494A4B4C, 0x4D4E4F50, 0x51525354), 20);
        Check.same("feed again", c.writer.feed(0x61626364, -1, 0x80000000, 0, 0x7F), 40);
        Check.same("write", c.writer.write(Check.PLAIN), 40);
        byte[] result = c.result();
        for (int i = 0; i < 20; i++) {
            Check.same("byte " + i, result[i], 'A' + i);
        }
        int[] due = {'a', 'b', 'c', 'd', 255, 255, 255, 255, 128, 0, 0, 0, 0, 0, 0, 0, 0, 0, 0, 127};
        for (int i = 0; i < 20; i++) {
            Check.same("byte " + (20 + i), c.writer.result(20 + i), due[i]);
        }
    }

    // More calls than an object is promised for; the limit is still to be kept.
    private static void feedRefusesWhatHasNoRoom() {
        Check c = new Check(0);
        for (int i = 1; i <= 3276; i++) {
            Check.same("feed " + i, c.writer.feed(i, i, i, i, i), 20 * i);
        }
        Check.throwsException("feed without room", IllegalStateException.class, () -> c.writer.feed(1, 2, 3, 4, 5));
        Check.same("the text stays", c.writer.count(0), 65520);
        Check.same("end", c.writer.end(65516), 65516);
        Check.same("feed with just enough room", c.writer.feed(1, 2, 3, 4, 5), 65536);
        Check.throwsException("feed when full", IllegalStateException.class, () -> c.writer.feed(1, 2, 3, 4, 5));
        Check.same("set of the longest text", c.writer.set(0), 65536);
    }

    private static void endKeepsTheFirstBytes() {
        Check c = new Check(0);
        Check.same("end(0) of nothing", c.writer.end(0), 0);
        c.writer.feed(0x41424344, 0, 0, 0, 0);
        Check.same("end(20)", c.writer.end(20), 20);
        Check.same("end(3)", c.writer.end(3), 3);
        Check.same("count behind end", c.writer.count(0), 3);
        c.feedText("xy");
        c.writes("", Check.PLAIN, "ABCxy");
    }

    private static void endRefusesWhatIsNotThere() {
        Check c = new Check(0);
        c.feedText("abc");
        int[] bad = {-1, 4, 20, Integer.MAX_VALUE, Integer.MIN_VALUE};
        for (int n : bad) {
            Check.throwsException("end(" + n + ")", IllegalArgumentException.class, () -> c.writer.end(n));
            Check.same("count behind end(" + n + ")", c.writer.count(0), 3);
        }
    }

    private static void countTellsTheState() {
        Check c = new Check(0).groups(7).name(3, "a").name(3, "b").set(1, "12345");
        c.feedText("$1$1");
        c.writer.write(0);
        c.feedText("xyz");
        int[] due = {3, 10, 7, 2};
        for (int what = 0; what < 4; what++) {
            Check.same("count(" + what + ")", c.writer.count(what), due[what]);
        }
        int[] others = {-1, 4, 5, Integer.MAX_VALUE, Integer.MIN_VALUE};
        for (int what : others) {
            Check.same("count(" + what + ")", c.writer.count(what), -1);
        }
    }
}
