/** Two objects made alike, of which one meets a call that throws: then all that can be seen of both is compared. */
final class Twins {
    private static final String[] NAMES = {"n", "m", "a", "_", "new"};

    /** Makes an object and brings it to the state in which the call is refused. */
    interface Maker {
        Check make();
    }

    /** The call that is refused. */
    interface Refused {
        void on(ReplacementWriter writer);
    }

    private Twins() {
    }

    /** The call throws and changes nothing. */
    static void unchanged(String what, Class<? extends RuntimeException> due, Maker maker, Refused call) {
        compare(what, due, maker.make(), maker.make(), call);
    }

    /** The call throws, THE TEXT is empty then, and nothing else has changed. */
    static void emptied(String what, Class<? extends RuntimeException> due, Maker maker, Refused call) {
        Check other = maker.make();
        other.writer.end(0);
        compare(what, due, maker.make(), other, call);
    }

    private static void compare(String what, Class<? extends RuntimeException> due, Check one, Check other, Refused call) {
        Check.throwsException(what, due, () -> call.on(one.writer));
        Check.sameText("the state behind " + what, seen(one), seen(other));
    }

    private static String seen(Check c) {
        StringBuilder all = new StringBuilder();
        for (int what = 0; what < 4; what++) {
            all.append("count ").append(c.writer.count(what)).append('\n');
        }
        all.append("fault ").append(c.writer.fault(0)).append(" at ").append(c.writer.fault(1)).append('\n');
        all.append("result ").append(c.resultAsBytes()).append('\n');
        all.append("text ").append(written(c, "", Check.PLAIN));
        for (int group = 0; group <= c.writer.count(2); group++) {
            all.append(written(c, "${" + group + ":+<${" + group + "}>:unset}", Check.RICH));
        }
        for (String name : NAMES) {
            all.append(written(c, "${" + name + ":+<${" + name + "}>:unset}", Check.RICH));
        }
        all.append("mark ").append(written(c, "$*MARK", 0));
        return all.toString();
    }

    private static String written(Check c, String text, int options) {
        int answer = c.feedText(text).writer.write(options);
        return answer + " at " + c.writer.fault(1) + ": " + c.resultAsBytes() + "\n";
    }
}
