/** Terms and section 2, the sums and tests: wrap-around, division, rows there are not, and what binds more. */
public final class ReckonEdgeTest {
    private static final int LEAST = Integer.MIN_VALUE;
    private static final int MOST = Integer.MAX_VALUE;
    private static final int[] NUMBERS = {LEAST, LEAST + 1, -65537, -65536, -7, -2, -1, 0, 1, 2, 7, 46340, 46341, 65535,
        65536, 999999, MOST - 1, MOST};

    public static void main(String[] args) {
        sumsWrapAround();
        differencesWrapAround();
        productsWrapAround();
        quotientsAreCutTowardsZero();
        nothingByZero();
        leastByMinusOne();
        allPairs();
        minAndMax();
        comparisons();
        weakerSignsBindLess();
        deepestSums();
        deepestTests();
        andBindsMoreThanOr();
        eachKindOfTestWithEach();
        notBindsMost();
        stepIsTheNumberOfSteps();
        darkCountsAllColoursButZero();
        acrossAndDown();
        rowsThereAreNot();
        meetsAnotherAnt();
        haltedOrNot();
        Check.end();
    }

    /** A sum of the language for a number, put together without any wrap-around. */
    private static String written(int number) {
        if (number == LEAST) {
            return "(-65536 * 32768)";
        }
        int size = Math.abs(number);
        String digits = size <= 999999 ? "" + size : "(" + size / 32768 + " * 32768 + " + size % 32768 + ")";
        return number < 0 ? "(-" + digits + ")" : digits;
    }

    /** Whether the order is carried out in the next step; the ants stand far off each other. */
    private static boolean holds(String test) {
        FlagAnts x = Check.taught("rule s straight straight; ant a of s at 10 20 faces east; ant b of s at 62 63 faces west;"
            + " paint 0 0 1; paint 5 0 2; paint 9 0 5; paint 63 63 3; halt b when " + test + ";");
        x.pass(1);
        return x.ant(1, 4) == 0;
    }

    private static void dueSum(String sum, int want) {
        Check.due(sum + " = " + want, 1, holds(sum + " = " + written(want)) ? 1 : 0);
        int other = want + 1;
        Check.due(sum + " = " + other, 0, holds(sum + " = " + written(other)) ? 1 : 0);
    }

    private static void dueTest(String test, boolean want) {
        Check.due(test, want ? 1 : 0, holds(test) ? 1 : 0);
    }

    private static void sumsWrapAround() {
        dueSum(written(MOST) + " + 0", MOST);
        dueSum(written(MOST - 1) + " + 1", MOST);
        dueSum(written(MOST) + " + 1", LEAST);
        dueSum(written(MOST) + " + " + written(MOST), -2);
        dueSum(written(LEAST) + " + " + written(LEAST), 0);
        dueTest(written(MOST) + " + 1 < 0", true);
        dueTest(written(MOST - 1) + " + 1 < 0", false);
    }

    private static void differencesWrapAround() {
        dueSum(written(LEAST + 1) + " - 1", LEAST);
        dueSum(written(LEAST) + " - 1", MOST);
        dueSum("0 - " + written(LEAST), LEAST);
        dueSum("-" + written(LEAST), LEAST);
        dueSum("-" + written(LEAST + 1), MOST);
        dueSum("-1 - " + written(LEAST), MOST);
        dueTest(written(LEAST) + " - 1 > 0", true);
        dueTest(written(LEAST + 1) + " - 1 > 0", false);
    }

    private static void productsWrapAround() {
        dueSum("65535 * 32768", 65535 * 32768);
        dueSum("65536 * 32768", LEAST);
        dueSum("65536 * 65535", -65536);
        dueSum("65536 * 65536", 0);
        dueSum("46340 * 46340", 2147395600);
        dueSum("46341 * 46341", -2147479015);
        dueSum(written(LEAST) + " * -1", LEAST);
        dueSum("999999 * 999999", -729379967);
    }

    private static void quotientsAreCutTowardsZero() {
        int[][] rows = {{6, 3, 2}, {7, 3, 2}, {8, 3, 2}, {9, 3, 3}, {-6, 3, -2}, {-7, 3, -2}, {-8, 3, -2}, {-9, 3, -3},
            {7, -3, -2}, {8, -3, -2}, {9, -3, -3}, {-7, -3, 2}, {-9, -3, 3}, {1, 2, 0}, {-1, 2, 0}, {1, -2, 0}, {2, 2, 1},
            {-2, 2, -1}, {0, 5, 0}};
        for (int[] row : rows) {
            dueSum(written(row[0]) + " / " + written(row[1]), row[2]);
        }
    }

    private static void nothingByZero() {
        for (int number : new int[] {LEAST, -5, -1, 0, 1, 5, MOST}) {
            dueSum(written(number) + " / 0", 0);
            dueSum(written(number) + " / (1 - 1)", 0);
            dueSum(written(number) + " / row(30)", 0);
            dueSum(written(number) + " / 1", number);
        }
        dueSum("1 + 5 / 0 * 3", 1);
        dueSum("7 / 0 / 0", 0);
    }

    private static void leastByMinusOne() {
        dueSum(written(LEAST) + " / -1", LEAST);
        dueSum(written(LEAST) + " / 1", LEAST);
        dueSum(written(LEAST + 1) + " / -1", MOST);
        dueSum(written(MOST) + " / -1", LEAST + 1);
        dueSum(written(LEAST) + " / -2", 1 << 30);
        dueSum(written(LEAST) + " / " + written(LEAST), 1);
    }

    private static void allPairs() {
        for (int left : NUMBERS) {
            for (int right : NUMBERS) {
                long l = left;
                long r = right;
                String behind = " " + written(right) + " = ";
                dueTest(written(left) + " +" + behind + written((int) (l + r)), true);
                dueTest(written(left) + " -" + behind + written((int) (l - r)), true);
                dueTest(written(left) + " *" + behind + written((int) (l * r)), true);
                dueTest(written(left) + " /" + behind + written(r == 0 ? 0 : (int) (l / r)), true);
            }
        }
    }

    private static void minAndMax() {
        for (int left : new int[] {LEAST, -1, 0, 1, MOST}) {
            for (int right : new int[] {LEAST, -1, 0, 1, MOST}) {
                String both = "(" + written(left) + ", " + written(right) + ")";
                dueSum("min" + both, left < right ? left : right);
                dueSum("max" + both, left > right ? left : right);
            }
        }
    }

    private static void comparisons() {
        for (int left : NUMBERS) {
            for (int right : new int[] {left - 1, left, left + 1, 0}) {
                String l = written(left) + " ";
                String r = " " + written(right);
                dueTest(l + "<" + r, left < right);
                dueTest(l + ">" + r, left > right);
                dueTest(l + "=" + r, left == right);
                dueTest(l + "<=" + r, left <= right);
                dueTest(l + ">=" + r, left >= right);
            }
        }
    }

    private static void weakerSignsBindLess() {
        dueSum("2 + 3 * 4", 14);
        dueSum("2 * 3 + 4", 10);
        dueSum("20 - 6 / 2", 17);
        dueSum("20 - 6 - 2", 12);
        dueSum("20 - 6 + 2", 16);
        dueSum("20 / 6 * 2", 6);
        dueSum("20 * 6 / 7", 17);
        dueSum("100 / 10 / 2", 5);
        dueSum("20 - (6 - 2)", 16);
        dueSum("100 / (10 / 2)", 20);
        dueSum("-7 / 2", -3);
        dueSum("-(7 / 2)", -3);
        dueSum("-2 - -3", 1);
        dueSum("2 - - - 3", -1);
        dueSum("-2 * -3 + -1", 5);
        dueSum("min(1 + 2, 2 * 2) * 2", 6);
        dueSum("-max(1, 2) + row(0) * 2", 4);
    }

    /** At the greatest depth the most values wait for their other side. */
    private static void deepestSums() {
        String sum = "3";
        int value = 3;
        for (int n = 1; n <= 8; n++) {
            sum = n + " - 2 * min(7, " + sum + ")";
            value = n - 2 * Math.min(7, value);
            dueSum(sum, value);
        }
        dueTest("1 = 2 or 1 = 1 and " + written(value) + " = 0 + 1 * " + sum, true);
        dueTest("1 = 2 or 1 = 1 and " + written(value + 1) + " = 0 + 1 * " + sum, false);
    }

    private static void deepestTests() {
        for (String[] inmost : new String[][] {{"1 = 1", "1"}, {"1 = 2", ""}, {"2 - 1 * 1 >= 0 + 1", "1"}}) {
            String test = inmost[0];
            for (int n = 1; n <= 8; n++) {
                test = "1 = 2 or 1 = 1 and [" + test + "] and 2 = 2";
                dueTest(test, !inmost[1].isEmpty());
            }
            String turned = inmost[0];
            boolean holds = !inmost[1].isEmpty();
            for (int n = 1; n <= 4; n++) {
                turned = "1 = 1 and not [" + turned + "] or 2 = 1";
                holds = !holds;
                dueTest(turned, holds);
            }
        }
    }

    private static void andBindsMoreThanOr() {
        String[] truth = {"1 = 2", "1 = 1"};
        for (int bits = 0; bits < 8; bits++) {
            boolean p = (bits & 1) != 0;
            boolean q = (bits & 2) != 0;
            boolean r = (bits & 4) != 0;
            String a = truth[bits & 1];
            String b = truth[bits >> 1 & 1];
            String c = truth[bits >> 2];
            dueTest(a + " or " + b + " and " + c, p || q && r);
            dueTest(a + " and " + b + " or " + c, p && q || r);
            dueTest("[" + a + " or " + b + "] and " + c, (p || q) && r);
            dueTest(a + " and [" + b + " or " + c + "]", p && (q || r));
            dueTest(a + " and " + b + " and " + c, p && q && r);
            dueTest(a + " or " + b + " or " + c, p || q || r);
        }
    }

    /** Whatever kind of test it is that holds, it holds with others as well as alone. */
    private static void eachKindOfTestWithEach() {
        String[] holding = {"1 < 2", "2 > 1", "1 = 1", "1 <= 2", "2 >= 1", "not 1 = 2", "[1 = 1]", "meets a", "halted b",
            "not meets c", "not halted a", "not not meets b", "not [1 = 2 and 1 = 1]", "[1 = 2 or halted b]"};
        for (String left : holding) {
            for (String right : holding) {
                dueCarriedOut(left + " and " + right, 1);
                dueCarriedOut(left + " or " + right, 1);
                dueCarriedOut("not [" + left + "] or " + right, 1);
                dueCarriedOut("not [" + left + "] and " + right, 0);
                dueCarriedOut("not [" + left + " and " + right + "]", 0);
                dueCarriedOut("not [" + left + " or " + right + "]", 0);
            }
        }
    }

    private static void dueCarriedOut(String test, int times) {
        FlagAnts x = Check.taught(THREE + "paint 63 9 1; wash 9 to 9 when " + test + ";");
        x.halt(1);
        x.pass(1);
        Check.due(test, times, x.count(9));
    }

    private static void notBindsMost() {
        String[] truth = {"1 = 2", "1 = 1"};
        for (int bits = 0; bits < 4; bits++) {
            boolean p = (bits & 1) != 0;
            boolean q = (bits & 2) != 0;
            String a = truth[bits & 1];
            String b = truth[bits >> 1];
            dueTest("not " + a + " and " + b, !p && q);
            dueTest("not " + a + " or " + b, !p || q);
            dueTest("not [" + a + " and " + b + "]", !(p && q));
            dueTest("not [" + a + " or " + b + "]", !(p || q));
            dueTest(a + " and not " + b, p && !q);
            dueTest("not not " + a, p);
            dueTest("not not not " + a, !p);
        }
    }

    private static void stepIsTheNumberOfSteps() {
        for (int step : new int[] {0, 1, 2, 7, 1000}) {
            FlagAnts x = Check.taught("rule s straight straight; ant a of s at 1 1 faces east; halt a when step = " + step + ";");
            Check.due("the ant makes as many steps", step, x.foresee(1000, 6) == 1 ? 1000 : firstHalt(x));
        }
        FlagAnts x = Check.taught("rule s straight straight; ant a of s at 1 1 faces east; halt a when step < 0;");
        x.pass(1);
        Check.due("walks", 1, x.count(6));
    }

    private static int firstHalt(FlagAnts x) {
        x.pass(1000);
        return x.ant(0, 5);
    }

    private static void darkCountsAllColoursButZero() {
        for (int colour = 0; colour <= 5; colour++) {
            FlagAnts x = Check.taught("rule s straight straight; ant a of s at 9 9 faces east; paint 1 1 " + colour
                + "; halt a when dark = 1; halt a when row(1) = 1;");
            x.pass(1);
            Check.due("walks", colour == 0 ? 1 : 0, x.count(6));
        }
        dueSum("dark", 4);
        dueSum("row(0)", 3);
        dueSum("row(63)", 1);
    }

    private static void acrossAndDown() {
        dueSum("across a", 10);
        dueSum("down a", 20);
        dueSum("across b", 62);
        dueSum("down b", 63);
        dueSum("period a", 0);
    }

    private static void rowsThereAreNot() {
        dueSum("row(0)", 3);
        dueSum("row(-1)", 0);
        dueSum("row(0 - 1)", 0);
        dueSum("row(-64)", 0);
        dueSum("row(63)", 1);
        dueSum("row(64)", 0);
        dueSum("row(127)", 0);
        dueSum("row(128)", 0);
        dueSum("row(" + written(MOST) + ")", 0);
        dueSum("row(" + written(LEAST) + ")", 0);
        dueSum("row(65536 * 65536)", 3);
        dueSum("row(row(63) - 1)", 3);
    }

    private static final String THREE = "rule s straight straight; ant a of s at 5 5 faces east; ant b of s at 5 5 faces east;"
        + " ant c of s at 6 5 faces east; ant d of s at 5 6 faces east; ant e of s at 6 6 faces east; ";

    private static void meetsAnotherAnt() {
        for (String ant : new String[] {"a", "b", "c", "d", "e"}) {
            FlagAnts x = Check.taught(THREE + "wash 5 to 5 when meets " + ant + "; paint 63 5 1;");
            x.pass(1);
            boolean meets = ant.equals("a") || ant.equals("b");
            Check.due("meets " + ant, meets ? 1 : 0, x.count(9));
        }
        FlagAnts alone = Check.taught("rule s straight straight; ant a of s at 5 5 faces east; paint 5 5 1;"
            + " wash 5 to 5 when meets a;");
        alone.pass(1);
        Check.due("an ant does not meet itself", 0, alone.count(9));
        FlagAnts x = Check.taught(THREE + "wash 9 to 9 when meets b; paint 63 9 1;");
        x.halt(0);
        x.halt(1);
        x.pass(1);
        Check.due("halted ants are met too", 1, x.count(9));
    }

    private static void haltedOrNot() {
        FlagAnts x = Check.taught(THREE + "wash 9 to 9 when halted b; wash 8 to 8 when not halted b; paint 1 9 1; paint 1 8 1;");
        x.halt(0);
        x.pass(1);
        Check.due("another one is halted", 1, x.row(9));
        Check.due("this one walks", 0, x.row(8));
        x.halt(1);
        x.pass(1);
        Check.due("it is halted", 0, x.row(9));
    }
}
