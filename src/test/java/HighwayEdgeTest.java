/** Section 2, highways: how long a path has to be, what has to be alike, where it has to lead, and when it begins anew. */
public final class HighwayEdgeTest {
    private static final int NORTH = 0;
    private static final int EAST = 1;
    private static final int SOUTH = 2;
    private static final int WEST = 3;

    public static void main(String[] args) {
        eachPeriodTo120();
        firstOfThreePeriodsCountsToo();
        allOfThreePeriodsCount();
        leadsElsewhere();
        roundTheYard();
        leastPeriod();
        signsOfTheLead();
        leavesTheHighway();
        beginsAsTold();
        beginsAsFacedByAnOrder();
        beginsAsFacedByHand();
        beginsAsPlacedByHand();
        goesOnBehindAHalt();
        stonesDoNotMatter();
        eachAntHasItsOwn();
        ordersSeeThePeriod();
        longPaths();
        Check.end();
    }

    /** Leads the only ant along any path: the stone under it is painted as its next turn asks. */
    private static final class Walker {
        /** The colours 0 to 2 lead straight on, so that a washed row can be gone along three times. */
        final FlagAnts x = Check.taught("rule all straight straight straight left right back; ant a of all at 32 32 faces east;");

        void go(int... sides) {
            for (int i = 0; i < sides.length;) {
                int alike = 0;
                while (i + alike < sides.length && sides[i + alike] == sides[i]) {
                    alike++;
                }
                turn(sides[i]);
                if (alike > 1) {
                    x.wash(0, 63);
                    x.pass(alike - 1);
                }
                i += alike;
            }
        }

        private void turn(int side) {
            int[] colours = {0, 4, 5, 3};
            x.paint(x.ant(0, 1), x.ant(0, 2), colours[side - x.ant(0, 3) & 3]);
            x.pass(1);
            Check.due("side gone to", side, x.ant(0, 3));
        }

        void due(String when, int period, int east, int south) {
            Check.due("period " + when, period, x.ant(0, 6));
            Check.due("to the east " + when, east, x.ant(0, 7));
            Check.due("to the south " + when, south, x.ant(0, 8));
        }
    }

    private static int[] times(int[] sides, int steps) {
        int[] all = new int[steps];
        for (int i = 0; i < steps; i++) {
            all[i] = sides[i % sides.length];
        }
        return all;
    }

    private static int[] part(int[] sides, int from, int to) {
        return java.util.Arrays.copyOfRange(sides, from, to);
    }

    /** A period without a smaller one: to the east, but once to the north ahead of the last step. */
    private static int[] oneNorth(int period) {
        int[] sides = new int[period];
        java.util.Arrays.fill(sides, EAST);
        if (period > 1) {
            sides[period - 2] = NORTH;
        }
        return sides;
    }

    private static void eachPeriodTo120() {
        for (int p = 1; p <= 120; p++) {
            Walker w = new Walker();
            int[] path = times(oneNorth(p), 3 * p);
            w.go(part(path, 0, 3 * p - 1));
            w.due("behind a step less than three times " + p, 0, 0, 0);
            w.go(path[3 * p - 1]);
            w.due("behind three times " + p, p, p > 1 ? p - 1 : 1, p > 1 ? -1 : 0);
        }
        for (int p = 121; p <= 123; p++) {
            Walker w = new Walker();
            w.go(times(oneNorth(p), 3 * p));
            w.due("behind three times " + p, 0, 0, 0);
            w.go(times(oneNorth(p), p));
            w.due("behind four times " + p, 0, 0, 0);
        }
    }

    private static void firstOfThreePeriodsCountsToo() {
        for (int p : new int[] {2, 3, 4, 7, 40, 119, 120}) {
            Walker w = new Walker();
            int[] path = times(oneNorth(p), 3 * p + 1);
            int first = path[0];
            path[0] = SOUTH;
            w.go(part(path, 0, 3 * p));
            w.due("if the first step of three times " + p + " is not alike", 0, 0, 0);
            w.go(first);
            w.due("a step later", p, p - 1, -1);
        }
        Walker w = new Walker();
        w.go(SOUTH, EAST, EAST);
        w.due("behind two alike", 0, 0, 0);
        w.go(EAST);
        w.due("behind three alike", 1, 1, 0);
    }

    private static void allOfThreePeriodsCount() {
        for (int other = 0; other < 12; other++) {
            Walker w = new Walker();
            int[] path = times(oneNorth(4), 12);
            path[other] = SOUTH;
            w.go(path);
            w.due("if step " + other + " of three times 4 is not alike", 0, 0, 0);
        }
    }

    private static void leadsElsewhere() {
        int[][] circles = {{EAST, WEST}, {NORTH, SOUTH}, {EAST, NORTH, WEST, SOUTH}, {EAST, EAST, WEST, WEST},
            {NORTH, EAST, SOUTH, WEST, NORTH, WEST, SOUTH, EAST}};
        for (int[] circle : circles) {
            Walker w = new Walker();
            w.go(times(circle, 5 * circle.length));
            w.due("of a circle", 0, 0, 0);
        }
        int[][] ways = {{EAST, EAST, WEST}, {NORTH, SOUTH, SOUTH}, {EAST, NORTH, WEST}, {WEST, SOUTH, EAST, WEST}};
        int[][] leads = {{1, 0}, {0, 1}, {0, -1}, {-1, 1}};
        for (int i = 0; i < ways.length; i++) {
            Walker w = new Walker();
            w.go(times(ways[i], 3 * ways[i].length));
            w.due("of a way that leads on by one", ways[i].length, leads[i][0], leads[i][1]);
        }
    }

    private static void roundTheYard() {
        for (int east : new int[] {63, 64, 65}) {
            Walker w = new Walker();
            int[] sides = new int[east + 2];
            java.util.Arrays.fill(sides, EAST);
            sides[east] = NORTH;
            sides[east + 1] = SOUTH;
            int[] path = times(sides, 3 * sides.length);
            w.go(part(path, 0, path.length - 1));
            w.due("a step ahead", 0, 0, 0);
            w.go(SOUTH);
            w.due("round the yard by " + east, east + 2, east, 0);
            Check.due("column", 32 + 3 * east & 63, w.x.ant(0, 1));
            Check.due("row", 32, w.x.ant(0, 2));
        }
    }

    private static void leastPeriod() {
        Walker w = new Walker();
        w.go(times(new int[] {EAST}, 12));
        w.due("straight on", 1, 1, 0);
        w = new Walker();
        w.go(times(new int[] {EAST, NORTH}, 24));
        w.due("aslant", 2, 1, -1);
        w = new Walker();
        // three times 6 is there ahead of three times 1
        w.go(times(new int[] {SOUTH, EAST, EAST, EAST}, 12));
        w.due("behind three steps to the east", 1, 1, 0);
        w.go(SOUTH);
        w.due("then to the south", 4, 3, 1);
    }

    private static void signsOfTheLead() {
        int[][] leads = {{0, -1}, {1, 0}, {0, 1}, {-1, 0}};
        for (int side = NORTH; side <= WEST; side++) {
            Walker w = new Walker();
            w.go(side, side);
            w.due("behind two steps", 0, 0, 0);
            w.go(side);
            w.due("to side " + side, 1, leads[side][0], leads[side][1]);
        }
    }

    private static void leavesTheHighway() {
        Walker w = new Walker();
        w.go(times(new int[] {EAST}, 100));
        w.due("straight on", 1, 1, 0);
        w.go(NORTH);
        w.due("as it turns off", 0, 0, 0);
        w.go(NORTH);
        w.due("behind two steps", 0, 0, 0);
        w.go(NORTH);
        w.due("behind three steps", 1, 0, -1);
    }

    private static final String STRAIGHT = "rule s straight straight; ant a of s at 10 10 faces east; ";

    private static void duePeriods(String what, FlagAnts x, int... periods) {
        for (int i = 0; i < periods.length; i++) {
            Check.due(what + " behind " + (i + 1) + " steps", periods[i], period(x));
        }
    }

    private static int period(FlagAnts x) {
        x.pass(1);
        return x.ant(0, 6);
    }

    private static void beginsAsTold() {
        FlagAnts x = Check.taught(STRAIGHT);
        Check.due("as told", 0, x.ant(0, 6));
        duePeriods("as told", x, 0, 0, 1, 1);
        Check.due("told again", 0, Check.teach(x, STRAIGHT));
        Check.due("as told again", 0, x.ant(0, 6));
        duePeriods("told again", x, 0, 0, 1);
        Check.due("told with an error", 1, Check.teach(x, STRAIGHT + "!"));
        duePeriods("the path stays", x, 1);
    }

    private static void beginsAsFacedByAnOrder() {
        FlagAnts same = Check.taught(STRAIGHT + "face a east when step = 5;");
        duePeriods("faces the same side", same, 0, 0, 1, 1, 1, 1, 1);
        FlagAnts other = Check.taught(STRAIGHT + "face a south when step = 5;");
        duePeriods("faces another side", other, 0, 0, 1, 1, 1, 0, 0, 1);
        // the path begins anew even if the ant does not go to the side between
        FlagAnts back = Check.taught(STRAIGHT + "face a south when step = 5; face a east when step = 5;");
        duePeriods("faces another side and back", back, 0, 0, 1, 1, 1, 0, 0, 1);
        FlagAnts halted = Check.taught(STRAIGHT + "halt a when step = 4; face a west when step = 4; face a east when step = 5;"
            + " walk a when step = 5;");
        duePeriods("faces another side while it is halted", halted, 0, 0, 1, 1, 0, 0, 0, 1);
    }

    private static void beginsAsFacedByHand() {
        for (int side = 0; side < 4; side++) {
            FlagAnts x = Check.taught(STRAIGHT);
            duePeriods("at first", x, 0, 0, 1);
            Check.due("face", 1, x.face(0, side));
            Check.due("as faced by hand", 0, x.ant(0, 6));
            Check.due("to the east", 0, x.ant(0, 7));
            duePeriods("faced by hand", x, 0, 0, 1);
        }
    }

    private static void beginsAsPlacedByHand() {
        for (int column : new int[] {13, 14}) {
            FlagAnts x = Check.taught(STRAIGHT);
            duePeriods("at first", x, 0, 0, 1);
            Check.due("place", 64 * 10 + 13, x.place(0, column, 10));
            Check.due("as placed by hand", 0, x.ant(0, 6));
            duePeriods("placed by hand", x, 0, 0, 1);
        }
    }

    private static void goesOnBehindAHalt() {
        FlagAnts x = Check.taught(STRAIGHT);
        duePeriods("at first", x, 0, 0);
        x.halt(0);
        duePeriods("halted by hand", x, 0, 0, 0);
        x.halt(0);
        duePeriods("walking again", x, 1, 1);
        x.halt(0);
        duePeriods("halted on its highway", x, 1, 1, 1);
        FlagAnts y = Check.taught(STRAIGHT + "halt a when step = 2; walk a when step = 5; halt a when step = 6;");
        duePeriods("halted by orders", y, 0, 0, 0, 0, 0, 1, 1, 1);
    }

    private static void stonesDoNotMatter() {
        FlagAnts x = Check.taught(STRAIGHT);
        duePeriods("at first", x, 0, 0, 1);
        x.paint(13, 10, 5);
        x.wash(0, 63);
        x.paint(14, 10, 3);
        duePeriods("painted and washed", x, 1, 1, 1);
    }

    private static void eachAntHasItsOwn() {
        FlagAnts x = Check.taught(STRAIGHT + "ant b of s at 10 20 faces south; ant c of s at 30 30 faces north;"
            + " halt b when step = 0; walk b when step = 2; face c west when step = 1;");
        int[][] periods = {{0, 0, 0}, {0, 0, 0}, {1, 0, 0}, {1, 0, 1}, {1, 1, 1}};
        for (int[] due : periods) {
            x.pass(1);
            for (int ant = 0; ant < 3; ant++) {
                Check.due("period of ant " + ant + " behind " + x.count(0), due[ant], x.ant(ant, 6));
            }
        }
        x.face(2, 0);
        Check.due("a", 1, x.ant(0, 6));
        Check.due("b", 1, x.ant(1, 6));
        Check.due("c", 0, x.ant(2, 6));
        Check.due("b leads to the south", 1, x.ant(1, 8));
    }

    private static void ordersSeeThePeriod() {
        FlagAnts x = Check.taught(STRAIGHT + "halt a when period a = 1;");
        x.pass(10);
        Check.due("halted by its third step", 3, x.ant(0, 5));
        FlagAnts y = Check.taught(STRAIGHT + "face a south when period a = 1; halt a when period a = 0 and step > 0;"
            + " walk a when step = 1; walk a when step = 2;");
        y.pass(3);
        Check.due("walks for three steps", 3, y.ant(0, 5));
        y.pass(1);
        Check.due("the first order ends the highway that the second one asks for", 0, y.ant(0, 4));
        Check.due("carried out", 6, y.count(9));
    }

    /** Langton's ant comes to its highway of 104 steps late, and its path grows far beyond what a period can need. */
    private static void longPaths() {
        FlagAnts x = Check.taught("rule l right left; ant a of l at 32 32 faces north;");
        for (int i = 0; i < 10; i++) {
            x.pass(1000);
            Check.due("no highway behind " + x.count(0), 0, x.ant(0, 6));
        }
        for (int steps = 0; steps < 600 && x.ant(0, 6) != 104; steps++) {
            x.pass(1);
        }
        Check.due("Langton's highway", 104, x.ant(0, 6));
        Check.due("slantwise", 2, Math.abs(x.ant(0, 7)));
        Check.due("slantwise", 2, Math.abs(x.ant(0, 8)));
        FlagAnts y = Check.taught(STRAIGHT);
        for (int i = 0; i < 100; i++) {
            y.pass(1000);
        }
        Check.due("a path of 100000 steps", 1, y.ant(0, 6));
        y.halt(0);
        Check.due("now", 0, y.found());
    }
}
