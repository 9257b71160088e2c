/** What README.md shows: its lines of Java and its list, as they stand there. */
public final class ReadmeTest {
    private static final String LIST = "rule langton right left;\n"
        + "rule plain straight straight;\n"
        + "ant one of langton at 32 32 faces north;\n"
        + "ant two of plain at 0 32 faces east;\n"
        + "paint 5 6 3;\n"
        + "wash 0 to 7 when dark > 100 and not meets one;\n"
        + "face two south when across two = 10 or step = 50;\n"
        + "halt two when period two > 0;\n"
        + "walk two when halted two and row(32) < 6;\n";

    public static void main(String[] args) {
        shortList();
        listOfEachKind();
        Check.end();
    }

    private static void shortList() {
        FlagAnts yard = new FlagAnts();
        yard.feed(0x7061696e, 0x74203320, 0x3420353b, 0x20202020, 0x20202020); // "paint 3 4 5;" and blanks
        yard.trim(12);
        int error = yard.teach();       // 0, or 1 to 5; errorAt() tells the place
        int colour = yard.stone(3, 4);  // 5
        int more = yard.pass(100);      // makes 100 steps
        Check.due("error", 0, error);
        Check.due("colour", 5, colour);
        Check.due("more", 0, more);
    }

    private static void listOfEachKind() {
        FlagAnts yard = new FlagAnts();
        type(yard, LIST);
        Check.due("bytes of the tape", LIST.length(), yard.count(10));
        Check.due("error", 0, yard.teach());
        int[] counts = {0, 2, 2, 4, 1, 3, 2};
        for (int what = 0; what < counts.length; what++) {
            Check.due("count(" + what + ")", counts[what], yard.count(what));
        }
        // behind three steps two is on a highway: it is halted in each step, and let go while row 32 is not too dark
        yard.pass(3);
        Check.due("column of two", 3, yard.ant(1, 1));
        Check.due("highway of two", 1, yard.ant(1, 6));
        Check.due("dark stones of row 32", 5, yard.row(32));
        yard.pass(1);
        Check.due("orders", 2, yard.count(9));
        Check.due("column of two", 4, yard.ant(1, 1));
        yard.pass(1);
        Check.due("two is halted", 0, yard.ant(1, 4));
        Check.due("orders", 3, yard.count(9));
        Check.due("column of two", 4, yard.ant(1, 1));
    }

    private static void type(FlagAnts yard, String text) {
        int end = yard.count(10) + text.length();
        for (int i = 0; i < text.length(); i += 20) {
            yard.feed(four(text, i), four(text, i + 4), four(text, i + 8), four(text, i + 12), four(text, i + 16));
        }
        yard.trim(end);
    }

    private static int four(String text, int from) {
        int number = 0;
        for (int i = from; i < from + 4; i++) {
            number = number << 8 | (i < text.length() ? text.charAt(i) & 255 : ' ');
        }
        return number;
    }
}
