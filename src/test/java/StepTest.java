/** Promise 17: pass; what a step does, the orders, the tests and the highways. */
public final class StepTest {
    private static final String STRAIGHT = "rule s straight straight; ant a of s at 10 10 faces east; ";

    public static void main(String[] args) {
        wrongSteps();
        antStep();
        borders();
        highways();
        ordersCarriedOut();
        orderOfOrders();
        meetings();
        sums();
        tests();
        Check.end();
    }

    private static void wrongSteps() {
        FlagAnts x = Check.taught(STRAIGHT);
        long before = x.digest();
        for (int bad : new int[] {0, -1, 1001, Integer.MIN_VALUE, Integer.MAX_VALUE}) {
            Check.argument("pass(" + bad + ")", () -> x.pass(bad));
        }
        Check.due("nothing is changed", before, x.digest());
        Check.due("pass(1)", 1, x.pass(1));
        Check.due("pass(1000) goes round the yard fifteen times and on", 22, x.pass(1000));
        Check.due("steps", 1001, x.count(0));
        Check.due("pass of nothing", 0, new FlagAnts().pass(1000));
    }

    private static void dueAnt(FlagAnts x, int ant, int column, int row, int side) {
        Check.due("column", column, x.ant(ant, 1));
        Check.due("row", row, x.ant(ant, 2));
        Check.due("side", side, x.ant(ant, 3));
    }

    private static void antStep() {
        FlagAnts x = Check.taught("rule r left right straight back; ant a of r at 10 10 faces north; paint 9 10 1;"
            + " paint 9 9 2; paint 9 8 3; paint 9 9 2;");
        Check.due("left on 0", 1, x.pass(1));
        dueAnt(x, 0, 9, 10, 3);
        Check.due("0 becomes 1", 1, x.stone(10, 10));
        Check.due("right on 1", 0, x.pass(1));
        dueAnt(x, 0, 9, 9, 0);
        Check.due("1 becomes 2", 2, x.stone(9, 10));
        Check.due("straight on 2", 0, x.pass(1));
        dueAnt(x, 0, 9, 8, 0);
        Check.due("2 becomes 3", 3, x.stone(9, 9));
        Check.due("back on 3", -1, x.pass(1));
        dueAnt(x, 0, 9, 9, 2);
        Check.due("3 becomes 0", 0, x.stone(9, 8));
        FlagAnts y = Check.taught("rule r left right straight; ant a of r at 10 10 faces north; paint 10 10 4;");
        y.pass(1);
        dueAnt(y, 0, 11, 10, 1);
        Check.due("4 counts as 1 and becomes 2", 2, y.stone(10, 10));
    }

    private static void borders() {
        FlagAnts x = Check.taught("rule s straight straight; ant a of s at 0 0 faces north; ant b of s at 0 1 faces west;"
            + " ant c of s at 63 2 faces east; ant d of s at 3 63 faces south;");
        x.pass(1);
        dueAnt(x, 0, 0, 63, 0);
        dueAnt(x, 1, 63, 1, 3);
        dueAnt(x, 2, 0, 2, 1);
        dueAnt(x, 3, 3, 0, 2);
        x.pass(63);
        dueAnt(x, 0, 0, 0, 0);
        Check.due("round the yard leads to the north all the same", -1, x.ant(0, 8));
    }

    private static void highways() {
        FlagAnts x = Check.taught("rule lan right left; ant a of lan at 32 32 faces north;");
        for (int i = 0; i < 10; i++) {
            x.pass(1000);
        }
        Check.due("no highway yet", 0, x.ant(0, 6));
        x.pass(273 + 104);
        int steps = x.found();
        Check.due("the rest of three periods", steps < 400 ? 1 : 0, 1);
        x.pass(Math.max(steps, 1));
        Check.due("Langton's highway", 104, x.ant(0, 6));
        Check.due("it leads aslant", 4, Math.abs(x.ant(0, 7)) + Math.abs(x.ant(0, 8)));
        FlagAnts circle = Check.taught("rule r right right; ant a of r at 3 3 faces north;");
        circle.pass(400);
        Check.due("a circle is no highway", 0, circle.ant(0, 6));
        FlagAnts pair = Check.taught("rule r right left; ant a of r at 3 3 faces north;"
            + " wash 0 to 63 when 1 = 1; face a north when step / 2 * 2 = step;");
        pair.pass(100);
        Check.due("turned by orders all the time", 0, pair.ant(0, 6));
    }

    private static void ordersCarriedOut() {
        FlagAnts x = Check.taught(STRAIGHT + "paint 1 5 3; wash 5 to 6 when 1 = 1; face a east when 1 = 1;"
            + " face a south when step = 4; halt a when step >= 6; walk a when step = 9;");
        Check.due("washed", 0, x.pass(1));
        Check.due("carried out", 1, x.count(9));
        x.pass(2);
        Check.due("what changes nothing is not carried out", 1, x.count(9));
        Check.due("and leaves the path", 1, x.ant(0, 6));
        x.pass(2);
        // in the fifth step it faces east already, then south; in the sixth one east again
        dueAnt(x, 0, 14, 11, 2);
        Check.due("carried out", 2, x.count(9));
        x.pass(1);
        dueAnt(x, 0, 15, 11, 1);
        Check.due("carried out", 3, x.count(9));
        x.pass(1);
        dueAnt(x, 0, 15, 11, 1);
        Check.due("halted", 4, x.count(9));
        x.pass(2);
        Check.due("halted once", 4, x.count(9));
        x.pass(1);
        Check.due("walks", 5, x.count(9));
        x.pass(1);
        Check.due("halted anew", 6, x.count(9));
        Check.due("washed stones", 1, x.count(8));
        Check.due("steps of the ant", 7, x.ant(0, 5));
    }

    private static void orderOfOrders() {
        FlagAnts x = Check.taught(STRAIGHT + "paint 1 5 3; halt a when dark = 0; wash 5 to 5 when dark > 0;"
            + " halt a when dark = 0; walk a when halted a and step = 1;");
        x.pass(1);
        dueAnt(x, 0, 10, 10, 1);
        Check.due("carried out", 2, x.count(9));
        x.pass(1);
        dueAnt(x, 0, 11, 10, 1);
        FlagAnts y = Check.taught(STRAIGHT + "ant b of s at 10 10 faces west;");
        y.pass(1);
        Check.due("the second ant finds the stone of the first one dark, and clears it", 0, y.stone(10, 10));
    }

    private static void meetings() {
        FlagAnts x = Check.taught(STRAIGHT + "ant b of s at 10 10 faces east; ant c of s at 10 10 faces east;"
            + " ant d of s at 10 10 faces west;");
        Check.due("none without a step", 0, x.count(7));
        x.pass(1);
        Check.due("three ants are three meetings", 3, x.count(7));
        x.pass(1);
        Check.due("in each step anew", 6, x.count(7));
        x.halt(0);
        x.halt(1);
        x.halt(2);
        x.pass(1);
        Check.due("halted ones too", 9, x.count(7));
        FlagAnts swap = Check.taught("rule s straight straight; ant a of s at 1 1 faces east; ant b of s at 2 1 faces west;");
        swap.pass(1);
        Check.due("to pass each other is no meeting", 0, swap.count(7));
    }

    /** A test that holds washes the dark stone in row 60. */
    private static void dueTest(String test, boolean holds) {
        FlagAnts x = Check.taught("rule s straight straight; ant a of s at 10 20 faces east; ant b of s at 10 20 faces west;"
            + " ant c of s at 1 2 faces north; paint 0 60 1; paint 1 61 1; paint 2 61 2; halt c when step = 0;"
            + " wash 60 to 60 when " + test + ";");
        x.pass(1);
        Check.due(test, holds ? 1 : 0, x.count(8));
    }

    private static void sums() {
        String least = "(0 - 32768 * 65536)";
        for (String equal : new String[] {"1 + 2 * 3 = 7", "10 - 3 - 2 = 5", "100 / 10 / 5 = 2", "7 / 2 = 3", "-7 / 2 = -3",
            "7 / -2 = -3", "5 / 0 = 0", "-5 / (1 - 1) = 0", "2 * 3 + 4 * 5 = 26", "(1 + 2) * 3 = 9", "- - 3 = 3",
            "-2 * 3 = -6", "min(3, 2) = 2", "max(3, 2) = 3", "min(-3, 2) = -3", "max(-3, -2) = -2", "step = 0", "dark = 3",
            "across a = 10", "down a = 20", "down c = 2", "period a = 0", "row(60) = 1", "row(61) = 2", "row(0) = 0",
            "row(64) = 0", "row(-1) = 0", "row(999999 * 9999) = 0", "row(60 + 1) = 2", "65536 * 65536 = 0",
            least + " - 1 = 65536 * 32767 + 65535", least + " / -1 = " + least, "-" + least + " = " + least,
            least + " < 0", "32768 * 65536 = " + least, "999999 * 999999 = 0 - 729379 * 1000 - 967", "7 / 2 * 2 = 6"}) {
            dueTest(equal, true);
        }
        dueTest("1 + 2 * 3 = 9", false);
    }

    private static void tests() {
        String yes = "1 = 1";
        String no = "1 = 2";
        dueTest("1 < 2", true);
        dueTest("2 < 2", false);
        dueTest("2 > 1", true);
        dueTest("2 > 2", false);
        dueTest("2 <= 2", true);
        dueTest("3 <= 2", false);
        dueTest("2 >= 2", true);
        dueTest("1 >= 2", false);
        dueTest("meets a", true);
        dueTest("meets b", true);
        dueTest("meets c", false);
        dueTest("halted a", false);
        dueTest("halted c", true);
        dueTest("not halted c", false);
        dueTest("not " + no + " and " + no, false);
        dueTest("not [" + no + " and " + no + "]", true);
        dueTest(yes + " or " + yes + " and " + no, true);
        dueTest("[" + yes + " or " + yes + "] and " + no, false);
        dueTest(no + " and " + no + " or " + yes, true);
        dueTest(no + " or " + no + " or " + yes, true);
        dueTest(yes + " and " + yes + " and " + no, false);
        dueTest("not not " + yes, true);
    }
}
