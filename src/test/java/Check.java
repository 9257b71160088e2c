import java.nio.charset.StandardCharsets;

/** What the tests share: teaching a text, and saying which answers are wrong. */
final class Check {
    private static int wrong = 0;
    private static int asked = 0;

    private Check() {
    }

    interface Call {
        long answer();
    }

    static void due(String what, long want, long got) {
        asked++;
        if (got != want) {
            wrong++;
            System.out.println(what + " answered " + got + ", due is " + want);
        }
    }

    static void due(String what, double want, double got) {
        asked++;
        if (got != want) {
            wrong++;
            System.out.println(what + " answered " + got + ", due is " + want);
        }
    }

    /** The very class of the exception is due, so that the machine's own ones do not pass. */
    static void throwsDue(String what, Class<? extends RuntimeException> want, Call call) {
        asked++;
        String got;
        try {
            got = "answered " + call.answer();
        } catch (RuntimeException e) {
            if (e.getClass() == want) {
                return;
            }
            got = "threw " + e;
        }
        wrong++;
        System.out.println(what + " " + got + ", due is " + want.getSimpleName());
    }

    static void bounds(String what, Call call) {
        throwsDue(what, IndexOutOfBoundsException.class, call);
    }

    static void argument(String what, Call call) {
        throwsDue(what, IllegalArgumentException.class, call);
    }

    /** Feeds a text behind what the tape has, by twenties, and trims the rest off. */
    static void type(FlagAnts x, String text) {
        byte[] bytes = text.getBytes(StandardCharsets.ISO_8859_1);
        int end = x.count(10) + bytes.length;
        for (int i = 0; i < bytes.length; i += 20) {
            x.feed(four(bytes, i), four(bytes, i + 4), four(bytes, i + 8), four(bytes, i + 12), four(bytes, i + 16));
        }
        x.trim(end);
    }

    private static int four(byte[] bytes, int from) {
        int number = 0;
        for (int i = from; i < from + 4; i++) {
            number = number << 8 | (i < bytes.length ? bytes[i] & 255 : 0);
        }
        return number;
    }

    static int teach(FlagAnts x, String text) {
        type(x, text);
        return x.teach();
    }

    /** A new object that was taught a text without errors. */
    static FlagAnts taught(String text) {
        FlagAnts x = new FlagAnts();
        due("teach of " + text, 0, teach(x, text));
        due("errorAt behind " + text, -1, x.errorAt());
        return x;
    }

    /** A text with an error leaves a taught object alone, but for the tape. */
    static void error(String text, int error, int place) {
        FlagAnts x = taught("rule keep left right; ant kept of keep at 5 6 faces west; paint 1 2 3;");
        x.pass(3);
        long before = x.digest();
        due("teach of " + text, error, teach(x, text));
        due("errorAt behind " + text, place, x.errorAt());
        due("tape behind " + text, 0, x.count(10));
        due("digest behind " + text, before, x.digest());
    }

    /** The error stands where the text has a ^, which is left out. */
    static void errorAtMark(int error, String marked) {
        int place = marked.indexOf('^');
        error(marked.substring(0, place) + marked.substring(place + 1), error, place);
    }

    /** All that two objects tell is the same, but for errorAt. */
    static void same(String what, FlagAnts x, FlagAnts y) {
        due("digest " + what, y.digest(), x.digest());
        due("mean " + what, y.mean(), x.mean());
        for (int colour = 0; colour <= 5; colour++) {
            due("colour(" + colour + ") " + what, y.colour(colour), x.colour(colour));
        }
        for (int row = 0; row < 64; row++) {
            due("row(" + row + ") " + what, y.row(row), x.row(row));
        }
    }

    static void end() {
        System.out.println(asked + " asked, " + wrong + " wrong");
        if (wrong > 0) {
            System.exit(1);
        }
    }
}
