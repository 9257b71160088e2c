/** Promises 17 to 23: pass, foresee, until, found, advise, mean and digest at their bounds and next to them. */
public final class ForesightEdgeTest {
    private static final int[] FAR = {Integer.MIN_VALUE, Integer.MIN_VALUE + 1, -1000, -300, -1, 2001, 4096, 65537,
        Integer.MAX_VALUE - 1, Integer.MAX_VALUE};
    private static final String STRAIGHT = "rule s straight straight; ant a of s at 0 0 faces east; ";
    private static final String SOME = "rule s straight straight; rule r left right back; ant a of s at 5 5 faces east;"
        + " ant b of r at 8 5 faces north; ant c of s at 40 5 faces west; ant d of r at 30 33 faces south; paint 7 40 4;"
        + " paint 9 20 2; wash 40 to 41 when step = 20; face a south when meets a; halt c when step = 33;"
        + " walk c when step = 35; wash 0 to 9 when dark > 30 and step / 7 * 7 = step;";

    public static void main(String[] args) {
        passBounds();
        passCountsTheDifference();
        foreseeBounds();
        foreseeTellsWhatPassWouldBring();
        untilBounds();
        untilNow();
        untilTheFirstTime();
        untilTwoThousand();
        untilSeesOrdersAndHalts();
        foundNow();
        foundAnyAnt();
        foundTwoThousand();
        foundNever();
        adviseBounds();
        adviseEachEightRows();
        adviseOfSeveralTheSmallest();
        adviseFewerThanWithout();
        adviseBehindSoManySteps();
        nothingIsChanged();
        mean();
        digest();
        Check.end();
    }

    private static void passBounds() {
        FlagAnts x = Check.taught(SOME);
        long before = x.digest();
        Check.argument("pass(0)", () -> x.pass(0));
        Check.argument("pass(1001)", () -> x.pass(1001));
        for (int bad : FAR) {
            Check.argument("pass(" + bad + ")", () -> x.pass(bad));
        }
        Check.due("nothing is changed", before, x.digest());
        x.pass(1);
        Check.due("steps behind pass(1)", 1, x.count(0));
        x.pass(1000);
        Check.due("steps behind pass(1000)", 1001, x.count(0));
        Check.due("steps of the ant", 1001, x.ant(0, 5));
        FlagAnts y = Check.taught(SOME);
        for (int i = 0; i < 1001; i++) {
            y.pass(1);
        }
        Check.due("as many by one each", y.digest(), x.digest());
    }

    private static void passCountsTheDifference() {
        FlagAnts x = Check.taught(STRAIGHT + "wash 0 to 0 when step = 70; paint 3 5 1; wash 5 to 5 when step = 71;");
        Check.due("more", 64, x.pass(64));
        Check.due("fewer", -6, x.pass(6));
        Check.due("the washed row and a new stone", -57, x.pass(1));
        Check.due("one washed, one dark anew", 0, x.pass(1));
        Check.due("one more", 1, x.pass(1));
    }

    private static void foreseeBounds() {
        FlagAnts x = Check.taught(SOME);
        long before = x.digest();
        for (int what = 4; what <= 9; what++) {
            int w = what;
            Check.argument("foresee(0, " + what + ")", () -> x.foresee(0, w));
            Check.argument("foresee(1001, " + what + ")", () -> x.foresee(1001, w));
            x.foresee(1, what);
            x.foresee(1000, what);
        }
        for (int steps : new int[] {1, 1000}) {
            Check.bounds("foresee(" + steps + ", 3)", () -> x.foresee(steps, 3));
            Check.bounds("foresee(" + steps + ", 10)", () -> x.foresee(steps, 10));
            Check.bounds("foresee(" + steps + ", 0)", () -> x.foresee(steps, 0));
            for (int bad : FAR) {
                Check.bounds("foresee(" + steps + ", " + bad + ")", () -> x.foresee(steps, bad));
            }
        }
        for (int bad : FAR) {
            Check.argument("foresee(" + bad + ", 4)", () -> x.foresee(bad, 4));
            Check.argument("the steps are named first: " + bad, () -> x.foresee(bad, 3));
            Check.argument("the steps are named first: " + bad, () -> x.foresee(bad, 10));
        }
        Check.argument("the steps are named first", () -> x.foresee(0, 3));
        Check.argument("the steps are named first", () -> x.foresee(1001, 10));
        Check.due("nothing is changed", before, x.digest());
    }

    private static void foreseeTellsWhatPassWouldBring() {
        for (int steps : new int[] {1, 2, 20, 21, 33, 34, 35, 36, 999, 1000}) {
            FlagAnts x = Check.taught(SOME);
            x.wash(20, 20);
            x.halt(1);
            x.pass(2);
            int[] told = new int[10];
            for (int what = 4; what <= 9; what++) {
                told[what] = x.foresee(steps, what);
            }
            x.pass(steps);
            for (int what = 4; what <= 9; what++) {
                Check.due("foresee(" + steps + ", " + what + ")", x.count(what), told[what]);
            }
        }
    }

    private static void untilBounds() {
        FlagAnts x = Check.taught(SOME);
        long before = x.digest();
        Check.bounds("until(-1, 0, 0)", () -> x.until(-1, 0, 0));
        Check.bounds("until(4, 0, 0)", () -> x.until(4, 0, 0));
        Check.bounds("until(6, 0, 0)", () -> x.until(6, 0, 0));
        for (int bad : new int[] {-1, 64}) {
            Check.bounds("until(3, " + bad + ", 0)", () -> x.until(3, bad, 0));
            Check.bounds("until(3, 0, " + bad + ")", () -> x.until(3, 0, bad));
        }
        for (int bad : FAR) {
            Check.bounds("until(" + bad + ", 0, 0)", () -> x.until(bad, 0, 0));
            Check.bounds("until(0, " + bad + ", 0)", () -> x.until(0, bad, 0));
            Check.bounds("until(0, 63, " + bad + ")", () -> x.until(0, 63, bad));
        }
        Check.due("nothing is changed", before, x.digest());
        FlagAnts y = Check.taught(STRAIGHT + "ant b of s at 0 0 faces north; ant c of s at 63 63 faces west;");
        Check.due("the last column", 63, y.until(0, 63, 0));
        Check.due("the last row", 1, y.until(1, 0, 63));
        Check.due("the first column", 63, y.until(2, 0, 63));
    }

    private static void untilNow() {
        FlagAnts x = Check.taught(STRAIGHT);
        Check.due("now", 0, x.until(0, 0, 0));
        Check.due("one step", 1, x.until(0, 1, 0));
        x.pass(1);
        Check.due("once round the yard", 63, x.until(0, 0, 0));
        Check.due("now", 0, x.until(0, 1, 0));
        x.place(0, 9, 9);
        Check.due("now, by hand", 0, x.until(0, 9, 9));
        x.halt(0);
        Check.due("now, halted", 0, x.until(0, 9, 9));
    }

    private static void untilTheFirstTime() {
        FlagAnts x = Check.taught("rule r right right; ant a of r at 9 9 faces north; ant b of r at 30 30 faces north;");
        Check.due("the first time of many", 1, x.until(0, 10, 9));
        Check.due("the first time of many", 2, x.until(0, 10, 10));
        Check.due("the first time of many", 3, x.until(0, 9, 10));
        Check.due("never", -1, x.until(0, 8, 9));
        Check.due("another ant does not count", -1, x.until(0, 30, 30));
        x.pass(1);
        Check.due("the next time", 3, x.until(0, 9, 9));
    }

    private static void untilTwoThousand() {
        String late = "face a south when step = ";
        for (int step : new int[] {1997, 1998, 1999}) {
            Check.due("behind " + (step + 1), step + 1, Check.taught(STRAIGHT + late + step + ";").until(0, step % 64, 1));
        }
        for (int step : new int[] {2000, 2001, 2100}) {
            Check.due("not by then", -1, Check.taught(STRAIGHT + late + step + ";").until(0, step % 64, 1));
        }
        FlagAnts x = Check.taught(STRAIGHT + late + "2000;");
        x.pass(1);
        Check.due("a step nearer", 2000, x.until(0, 2000 % 64, 1));
    }

    private static void untilSeesOrdersAndHalts() {
        FlagAnts x = Check.taught(STRAIGHT + "halt a when across a = 5; walk a when step = 12; face a south when step = 12;");
        Check.due("ahead of the halt", 5, x.until(0, 5, 0));
        Check.due("not straight on", -1, x.until(0, 6, 0));
        // an order lets it go in its thirteenth step, but halts it again, as it is still in column 5
        Check.due("one step to the south", 13, x.until(0, 5, 1));
        Check.due("and no further", -1, x.until(0, 5, 2));
    }

    private static void foundNow() {
        FlagAnts x = Check.taught(STRAIGHT);
        Check.due("three steps", 3, x.found());
        x.pass(2);
        Check.due("one step", 1, x.found());
        x.pass(1);
        Check.due("now", 0, x.found());
        x.halt(0);
        Check.due("now, halted", 0, x.found());
        x.face(0, 1);
        Check.due("halted without a highway", -1, x.found());
        x.halt(0);
        Check.due("three steps anew", 3, x.found());
    }

    private static void foundAnyAnt() {
        String circle = "rule c left left; rule s straight straight; ";
        for (int straight = 0; straight < 6; straight++) {
            String text = circle;
            for (int i = 0; i < 6; i++) {
                text += "ant a" + i + " of " + (i == straight ? "s" : "c") + " at " + 10 * i + " 9 faces west; ";
            }
            text += "halt a" + straight + " when step = 1; walk a" + straight + " when step = 6;";
            FlagAnts x = Check.taught(text);
            Check.due("ant " + straight, 8, x.found());
            x.pass(8);
            Check.due("ant " + straight, 0, x.found());
        }
    }

    private static void foundTwoThousand() {
        String late = STRAIGHT + "halt a when step = 2; walk a when step = ";
        for (int step : new int[] {1997, 1998, 1999}) {
            Check.due("behind " + (step + 1), step + 1, Check.taught(late + step + ";").found());
        }
        for (int step : new int[] {2000, 2001, 2100}) {
            Check.due("not by then", -1, Check.taught(late + step + ";").found());
        }
        FlagAnts x = Check.taught(late + "2000;");
        x.pass(1);
        Check.due("a step nearer", 2000, x.found());
    }

    private static void foundNever() {
        Check.due("no ants", -1, new FlagAnts().found());
        Check.due("rules alone", -1, Check.taught("rule s straight straight;").found());
        Check.due("a circle", -1, Check.taught("rule r left left; ant a of r at 9 9 faces east;").found());
        Check.due("turned off again and again", -1, Check.taught(STRAIGHT
            + "face a south when step / 4 * 4 = step; face a north when step / 4 * 4 = step - 2;").found());
    }

    private static void adviseBounds() {
        FlagAnts x = Check.taught("paint 1 9 1;");
        long before = x.digest();
        Check.due("advise(1)", 8, x.advise(1));
        Check.due("advise(300)", 8, x.advise(300));
        Check.argument("advise(0)", () -> x.advise(0));
        Check.argument("advise(301)", () -> x.advise(301));
        Check.argument("advise(1000)", () -> x.advise(1000));
        for (int bad : FAR) {
            Check.argument("advise(" + bad + ")", () -> x.advise(bad));
        }
        Check.due("nothing is changed", before, x.digest());
    }

    private static void adviseEachEightRows() {
        for (int row = 0; row < 64; row++) {
            FlagAnts x = Check.taught("paint 5 " + row + " 3;");
            Check.due("row " + row, row / 8 * 8, x.advise(2));
            x.paint(1, (row + 8) % 64, 1);
            x.paint(2, (row + 8) % 64, 1);
            Check.due("two in row " + (row + 8) % 64, (row + 8) % 64 / 8 * 8, x.advise(2));
        }
        FlagAnts x = Check.taught("paint 1 7 1; paint 1 8 1; paint 1 15 1; paint 1 16 1;");
        Check.due("two of 8 to 15", 8, x.advise(1));
        FlagAnts all = Check.taught("paint 1 16 1; paint 1 17 1; paint 1 18 1; paint 1 19 1; paint 1 20 1; paint 1 21 1;"
            + " paint 1 22 1; paint 1 23 1; paint 1 40 1; paint 2 41 1; paint 3 40 1; paint 4 41 1; paint 5 40 1; paint 6 41 1;"
            + " paint 7 40 1;");
        Check.due("all eight rows count", 16, all.advise(1));
    }

    private static void adviseOfSeveralTheSmallest() {
        for (int first = 0; first < 64; first += 8) {
            String text = "";
            for (int from = first; from < 64; from += 8) {
                text += "paint 9 " + (from + 7) + " 1; paint 10 " + from + " 2;";
            }
            Check.due("from " + first + " on", first, Check.taught(text).advise(1));
        }
    }

    private static void adviseFewerThanWithout() {
        Check.due("nothing is dark", -1, new FlagAnts().advise(1));
        Check.due("one fewer", 48, Check.taught("paint 0 48 1;").advise(1));
        FlagAnts cleared = Check.taught("paint 0 48 1; wash 0 to 63 when 1 = 1;");
        Check.due("the order washes it all the same", -1, cleared.advise(1));
        // a clean stone would be dark behind the step of the ant, a dark one is clean
        FlagAnts worse = Check.taught("rule s straight straight; ant a of s at 9 9 faces east; paint 9 9 1;");
        Check.due("one more by washing", -1, worse.advise(1));
        worse.paint(20, 9, 1);
        Check.due("as many by washing", -1, worse.advise(1));
        worse.paint(21, 9, 1);
        Check.due("one fewer by washing", 8, worse.advise(1));
        worse.paint(9, 16, 1);
        Check.due("of several the smallest", 8, worse.advise(1));
        worse.paint(9, 17, 1);
        Check.due("one fewer than by washing there", 16, worse.advise(1));
    }

    private static void adviseBehindSoManySteps() {
        for (int step : new int[] {1, 2, 299}) {
            FlagAnts x = Check.taught("paint 0 40 1; wash 40 to 40 when step = " + step + ";");
            Check.due("ahead of the order", 40, x.advise(step));
            Check.due("behind the order", -1, x.advise(step + 1));
        }
        FlagAnts late = Check.taught("paint 0 40 1; wash 40 to 40 when step = 300;");
        Check.due("ahead of the order", 40, late.advise(300));
        late.pass(1);
        Check.due("ahead of the order", 40, late.advise(299));
        Check.due("behind the order", -1, late.advise(300));
    }

    /** What only looks ahead leaves no trace in what comes later. */
    private static void nothingIsChanged() {
        FlagAnts x = Check.taught(SOME);
        FlagAnts y = Check.taught(SOME);
        x.feed(1, 2, 3, 4, 5);
        y.feed(1, 2, 3, 4, 5);
        for (int i = 0; i < 45; i++) {
            switch (i % 5) {
                case 0: x.foresee(1 + 20 * i, 4 + i % 6); break;
                case 1: x.until(i % 4, 60, 60); break;
                case 2: x.found(); break;
                case 3: x.advise(1 + 6 * i); break;
                default: x.mean(); break;
            }
            Check.same("behind looking ahead", x, y);
            Check.due("errorAt", -1, x.errorAt());
            Check.due("pass", y.pass(1), x.pass(1));
            Check.same("behind a step", x, y);
        }
    }

    private static void mean() {
        FlagAnts x = new FlagAnts();
        Check.due("of none", 0.0, x.mean());
        x.paint(63, 63, 1);
        Check.due("of one", 1.0 / 4096.0, x.mean());
        x.paint(63, 63, 5);
        Check.due("of five", 5.0 / 4096.0, x.mean());
        x.paint(0, 0, 5);
        Check.due("of two fives", 10.0 / 4096.0, x.mean());
        for (int column = 0; column < 64; column++) {
            for (int row = 0; row < 3; row++) {
                x.paint(column, row, 4);
            }
        }
        Check.due("of three rows and a stone", 773.0 / 4096.0, x.mean());
        x.wash(0, 63);
        Check.due("of none again", 0.0, x.mean());
        FlagAnts full = Check.taught("rule a straight straight straight straight straight straight; ant p of a at 0 0 faces east;");
        for (int row = 0; row < 64; row++) {
            full.place(0, 0, row);
            full.pass(320);
        }
        Check.due("of nothing but fives", 5.0, full.mean());
        Check.due("stones of colour 5", 4096, full.colour(5));
        Check.due("colours of all", 20480, full.count(5));
        Check.due("all are dark", 4096, full.wash(0, 63));
    }

    private static void digest() {
        long d = 911;
        for (int i = 0; i < 11 + 4096; i++) {
            d *= 31;
        }
        Check.due("of a new object", d, new FlagAnts().digest());
        FlagAnts x = new FlagAnts();
        x.paint(63, 63, 3);
        // dark stones and colours are the fifth and the sixth of the eleven counts; the stone is the last number
        Check.due("of one stone", d + power(4096 + 6) + 3 * power(4096 + 5) + 3, x.digest());
        x.paint(63, 63, 0);
        x.paint(1, 0, 2);
        Check.due("of another stone", d + power(4096 + 6) + 2 * power(4096 + 5) + 2 * power(4094), x.digest());
        FlagAnts y = Check.taught("rule r right back;");
        Check.due("of a rule", 911 * power(11 + 6 + 4096) + power(9 + 6 + 4096) + turnsOfRightBack() * power(4096), y.digest());
        FlagAnts z = Check.taught("rule r right back; ant a of r at 7 8 faces west;");
        z.feed(0, 0, 0, 0, 0);
        long rows = 15 + 4096;
        long want = 911 * power(11 + rows) + power(9 + rows) + power(8 + rows) + power(4 + rows) + 20 * power(rows)
            + turnsOfRightBack() * power(9 + 4096) + antAt(0, 7, 8, 3, 1, 0, 0, 0, 0) * power(4096);
        Check.due("of an ant and a tape", want, z.digest());
    }

    private static long power(long times) {
        long p = 1;
        for (long i = 0; i < times; i++) {
            p *= 31;
        }
        return p;
    }

    private static long antAt(int... answers) {
        long sum = 0;
        for (int answer : answers) {
            sum = sum * 31 + answer;
        }
        return sum;
    }

    private static long turnsOfRightBack() {
        return antAt(1, 3, 1, 3, 1, 3);
    }
}
