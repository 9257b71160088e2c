/** Promises 18 to 23: foresee, until, found, advise, mean and digest. */
public final class ForesightTest {
    private static final int LEAST = Integer.MIN_VALUE;
    private static final int MOST = Integer.MAX_VALUE;

    public static void main(String[] args) {
        foresees();
        until();
        found();
        advises();
        mean();
        digest();
        Check.end();
    }

    private static FlagAnts some() {
        return Check.taught("rule r left right; rule s straight straight; ant a of r at 5 5 faces north;"
            + " ant b of s at 5 6 faces east; ant c of s at 19 6 faces west; paint 7 40 4; halt b when meets b;"
            + " wash 40 to 41 when step = 20; face a west when step = 33;");
    }

    private static void foresees() {
        for (int steps : new int[] {1, 7, 8, 20, 21, 1000}) {
            for (int what = 4; what <= 9; what++) {
                FlagAnts x = some();
                x.pass(3);
                long before = x.digest();
                int told = x.foresee(steps, what);
                Check.due("nothing is changed", before, x.digest());
                x.pass(steps);
                Check.due("foresee(" + steps + ", " + what + ")", x.count(what), told);
            }
        }
        FlagAnts x = some();
        for (int bad : new int[] {0, -1, 1001, LEAST, MOST}) {
            Check.argument("foresee(" + bad + ", 4)", () -> x.foresee(bad, 4));
            Check.argument("foresee(" + bad + ", 3)", () -> x.foresee(bad, 3));
        }
        for (int bad : new int[] {3, 10, 0, -1, LEAST, MOST}) {
            Check.bounds("foresee(1, " + bad + ")", () -> x.foresee(1, bad));
        }
    }

    private static void until() {
        FlagAnts x = some();
        long before = x.digest();
        Check.due("now", 0, x.until(1, 5, 6));
        Check.due("one step", 1, x.until(1, 6, 6));
        Check.due("halted ahead", -1, x.until(1, 30, 6));
        Check.due("nothing is changed", before, x.digest());
        for (int bad : new int[] {-1, 3, LEAST, MOST}) {
            Check.bounds("until(" + bad + ", 0, 0)", () -> x.until(bad, 0, 0));
        }
        for (int bad : new int[] {-1, 64, LEAST, MOST}) {
            Check.bounds("until(0, " + bad + ", 0)", () -> x.until(0, bad, 0));
            Check.bounds("until(0, 0, " + bad + ")", () -> x.until(0, 0, bad));
        }
        String late = "rule s straight straight; ant a of s at 0 0 faces east; face a south when step = ";
        Check.due("2000 steps", 2000, Check.taught(late + "1999;").until(0, 1999 % 64, 1));
        Check.due("2001 steps", -1, Check.taught(late + "2000;").until(0, 2000 % 64, 1));
    }

    private static void found() {
        Check.due("no ants", -1, new FlagAnts().found());
        FlagAnts x = some();
        long before = x.digest();
        Check.due("three steps straight on", 3, x.found());
        Check.due("nothing is changed", before, x.digest());
        x.pass(2);
        Check.due("one more", 1, x.found());
        x.pass(1);
        Check.due("now", 0, x.found());
        x.halt(1);
        Check.due("a halted ant stays on its highway", 0, x.found());
        String late = "rule s straight straight; ant a of s at 0 0 faces east; halt a when step = 2; walk a when step = ";
        Check.due("2000 steps", 2000, Check.taught(late + "1999;").found());
        Check.due("2001 steps", -1, Check.taught(late + "2000;").found());
        Check.due("a circle", -1, Check.taught("rule r left left; ant a of r at 9 9 faces east;").found());
    }

    private static void advises() {
        FlagAnts x = Check.taught("paint 1 8 1; paint 1 15 1; paint 1 16 1; paint 1 23 1; paint 3 63 5;");
        long before = x.digest();
        Check.due("of several the smallest", 8, x.advise(1));
        Check.due("nothing is changed", before, x.digest());
        x.paint(2, 60, 1);
        x.paint(2, 56, 1);
        Check.due("the last rows", 56, x.advise(300));
        Check.due("nothing to wash", -1, new FlagAnts().advise(1));
        FlagAnts y = Check.taught("paint 1 8 1; paint 1 9 1; paint 5 0 1; wash 0 to 63 when dark > 2;");
        Check.due("an order washes all, so that nothing is left to win", -1, y.advise(1));
        FlagAnts z = Check.taught("paint 1 0 1; paint 2 0 1; paint 5 9 1; wash 0 to 8 when dark = 2; wash 8 to 9 when dark = 2;");
        Check.due("what the orders do then counts", 8, z.advise(1));
        for (int bad : new int[] {0, -1, 301, LEAST, MOST}) {
            Check.argument("advise(" + bad + ")", () -> x.advise(bad));
        }
    }

    private static void mean() {
        FlagAnts x = new FlagAnts();
        Check.due("mean", 0.0, x.mean());
        x.paint(0, 0, 5);
        Check.due("mean", 5.0 / 4096.0, x.mean());
        for (int place = 0; place < 96; place++) {
            x.paint(place % 64, 2 + place / 64, 3);
        }
        Check.due("mean", (5 + 288) / 4096.0, x.mean());
    }

    private static void digest() {
        Check.due("digest", byHand(new FlagAnts()), new FlagAnts().digest());
        FlagAnts x = some();
        x.feed(1, 2, 3, 4, 5);
        Check.due("digest", byHand(x), x.digest());
        x.pass(500);
        Check.due("digest", byHand(x), x.digest());
        long before = x.digest();
        x.trim(19);
        Check.due("the tape counts", 1, before != x.digest() ? 1 : 0);
        x.trim(0);
        Check.due("digest", byHand(x), x.digest());
    }

    private static long byHand(FlagAnts x) {
        long d = 911;
        for (int what = 0; what <= 10; what++) {
            d = d * 31 + x.count(what);
        }
        for (int rule = 0; rule < x.count(1); rule++) {
            for (int colour = 0; colour <= 5; colour++) {
                d = d * 31 + x.turn(rule, colour);
            }
        }
        for (int ant = 0; ant < x.count(2); ant++) {
            for (int what = 0; what <= 8; what++) {
                d = d * 31 + x.ant(ant, what);
            }
        }
        for (int row = 0; row < 64; row++) {
            for (int column = 0; column < 64; column++) {
                d = d * 31 + x.stone(column, row);
            }
        }
        return d;
    }
}
