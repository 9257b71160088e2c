/** Section 2, the yard and the steps: its borders, turns and colours, the order of a step, what is carried out, meetings. */
public final class StepEdgeTest {
    private static final String STRAIGHT = "rule s straight straight; ";
    private static final String[] SIDES = {"north", "east", "south", "west"};
    private static final String[] TURNS = {"left", "right", "straight", "back"};

    public static void main(String[] args) {
        beyondTheLastComesTheFirst();
        turnsByRemaindersOfFour();
        coloursByRemaindersOfTheRule();
        darkIsNotZero();
        antsWalkAtFirst();
        ordersInTheirOrder();
        ordersAheadOfTheAnts();
        antsOneBehindTheOther();
        washingRows();
        washCarriedOut();
        faceCarriedOut();
        haltCarriedOut();
        walkCarriedOut();
        meetingsOfPairs();
        meetingsOfEachKind();
        meetingsBehindTheSteps();
        stepsAreCountedAtTheEnd();
        allTwentyOrders();
        Check.end();
    }

    private static void dueAnt(String what, FlagAnts x, int ant, int column, int row, int side) {
        Check.due(what + ": column", column, x.ant(ant, 1));
        Check.due(what + ": row", row, x.ant(ant, 2));
        Check.due(what + ": side", side, x.ant(ant, 3));
    }

    private static FlagAnts oneAnt(int column, int row, int side) {
        return Check.taught(STRAIGHT + "ant a of s at " + column + " " + row + " faces " + SIDES[side] + ";");
    }

    private static void beyondTheLastComesTheFirst() {
        int[] east = {0, 1, 0, -1};
        int[] south = {-1, 0, 1, 0};
        for (int side = 0; side < 4; side++) {
            for (int column : new int[] {0, 1, 62, 63}) {
                for (int row : new int[] {0, 1, 62, 63}) {
                    FlagAnts x = oneAnt(column, row, side);
                    x.pass(1);
                    dueAnt("from " + column + " " + row, x, 0, Math.floorMod(column + east[side], 64),
                        Math.floorMod(row + south[side], 64), side);
                    x.pass(63);
                    dueAnt("round the yard", x, 0, column, row, side);
                    Check.due("a dark stone at each step", 64, x.count(4));
                }
            }
        }
    }

    private static void turnsByRemaindersOfFour() {
        int[] by = {-1, 1, 0, 2};
        for (int side = 0; side < 4; side++) {
            for (int turn = 0; turn < 4; turn++) {
                FlagAnts x = Check.taught("rule r " + TURNS[turn] + " straight; ant a of r at 9 9 faces " + SIDES[side] + ";");
                Check.due("the number of the turn", turn, x.turn(0, 0));
                x.pass(1);
                Check.due(SIDES[side] + " " + TURNS[turn], Math.floorMod(side + by[turn], 4), x.ant(0, 3));
            }
        }
    }

    private static void coloursByRemaindersOfTheRule() {
        int[] pattern = {0, 1, 3, 2, 1, 3};
        int[] by = {-1, 1, 0, 2};
        for (int n = 2; n <= 6; n++) {
            StringBuilder rule = new StringBuilder("rule r");
            for (int i = 0; i < n; i++) {
                rule.append(" ").append(TURNS[pattern[i]]);
            }
            for (int colour = 0; colour <= 5; colour++) {
                FlagAnts x = Check.taught(rule + "; ant a of r at 9 9 faces west; paint 9 9 " + colour + ";");
                int k = colour % n;
                Check.due("turn of " + n + " on " + colour, pattern[k], x.turn(0, colour));
                x.pass(1);
                Check.due("side by " + n + " on " + colour, Math.floorMod(3 + by[pattern[k]], 4), x.ant(0, 3));
                Check.due("colour by " + n + " on " + colour, (k + 1) % n, x.stone(9, 9));
                Check.due("stones of this colour", (k + 1) % n == 0 ? 4096 : 1, x.colour((k + 1) % n));
                Check.due("colours of all", (k + 1) % n, x.count(5));
            }
        }
    }

    private static void darkIsNotZero() {
        for (int colour = 0; colour <= 5; colour++) {
            FlagAnts x = Check.taught("paint 7 8 " + colour + ";");
            Check.due("dark", colour == 0 ? 0 : 1, x.count(4));
            Check.due("dark in the row", colour == 0 ? 0 : 1, x.row(8));
            Check.due("washed", colour == 0 ? 0 : 1, x.wash(8, 8));
        }
    }

    private static void antsWalkAtFirst() {
        FlagAnts x = Check.taught(STRAIGHT + "ant a of s at 1 1 faces east; ant b of s at 2 2 faces east;");
        Check.due("ants that walk", 2, x.count(6));
        Check.due("a", 1, x.ant(0, 4));
        Check.due("b", 1, x.ant(1, 4));
    }

    private static void ordersInTheirOrder() {
        String ants = STRAIGHT + "ant a of s at 1 1 faces north; ";
        FlagAnts x = Check.taught(ants + "face a east when step = 0; face a south when step = 0;");
        x.pass(1);
        dueAnt("the last one counts", x, 0, 1, 2, 2);
        Check.due("both are carried out", 2, x.count(9));
        FlagAnts y = Check.taught(ants + "halt a when dark = 0; wash 9 to 9 when 1 = 1; walk a when dark = 1; paint 9 9 1;"
            + " halt a when dark = 0;");
        y.pass(1);
        Check.due("the tests are looked at as they come to their turn", 2, y.count(9));
        Check.due("halted", 0, y.ant(0, 4));
        Check.due("no step of the ant", 0, y.ant(0, 5));
    }

    private static void ordersAheadOfTheAnts() {
        FlagAnts x = Check.taught(STRAIGHT + "ant a of s at 1 1 faces east; paint 1 1 1; wash 1 to 1 when step = 0;");
        x.pass(1);
        Check.due("the ant steps on a washed stone", 1, x.stone(1, 1));
        FlagAnts y = Check.taught(STRAIGHT + "ant a of s at 1 1 faces east; wash 1 to 1 when across a = 2;");
        y.pass(1);
        Check.due("it is not there yet", 0, y.count(9));
        y.pass(1);
        Check.due("now it is", 1, y.count(9));
    }

    private static void antsOneBehindTheOther() {
        String rule = "rule r left right straight; ";
        FlagAnts x = Check.taught(rule + "ant a of r at 9 9 faces north; ant b of r at 9 9 faces north; ant c of r at 9 9 faces north;");
        x.pass(1);
        dueAnt("on colour 0", x, 0, 8, 9, 3);
        dueAnt("on colour 1", x, 1, 10, 9, 1);
        dueAnt("on colour 2", x, 2, 9, 8, 0);
        Check.due("three times changed", 0, x.stone(9, 9));
        FlagAnts y = Check.taught(rule + "ant a of r at 9 9 faces south; ant b of r at 10 9 faces north;");
        y.pass(1);
        Check.due("a has gone on to the stone of b ahead of it", 1, y.stone(10, 9));
        dueAnt("b", y, 1, 9, 9, 3);
    }

    private static void washingRows() {
        for (int from : new int[] {0, 5, 62, 63}) {
            for (int to : new int[] {from, 62, 63}) {
                if (to >= from) {
                    StringBuilder text = new StringBuilder("wash " + from + " to " + to + " when step = 0; ");
                    for (int row = 0; row < 64; row++) {
                        text.append("paint ").append(row).append(" ").append(row).append(" 1;");
                    }
                    FlagAnts x = Check.taught(text.toString());
                    Check.due("fewer are dark", from - to - 1, x.pass(1));
                    Check.due("washed", to - from + 1, x.count(8));
                    for (int row = 0; row < 64; row++) {
                        Check.due("row " + row + " of wash " + from + " to " + to, row < from || row > to ? 1 : 0, x.row(row));
                    }
                }
            }
        }
        FlagAnts x = Check.taught("paint 0 7 5; paint 1 7 1; paint 62 7 2; paint 63 7 3; wash 7 to 7 when step = 0;");
        x.pass(1);
        Check.due("all columns", 4096, x.colour(0));
        Check.due("all colours count as one each", 4, x.count(8));
    }

    private static void washCarriedOut() {
        FlagAnts x = Check.taught("wash 7 to 9 when 1 = 1; paint 1 6 1; paint 1 10 1;");
        x.pass(3);
        Check.due("none was dark", 0, x.count(9));
        x.paint(5, 9, 2);
        x.pass(3);
        Check.due("one was dark once", 1, x.count(9));
        x.paint(5, 7, 2);
        x.paint(6, 7, 5);
        x.pass(1);
        Check.due("two were dark, but the order is one", 2, x.count(9));
        Check.due("washed", 3, x.count(8));
    }

    private static void faceCarriedOut() {
        for (int side = 0; side < 4; side++) {
            for (int other = 0; other < 4; other++) {
                FlagAnts x = Check.taught(STRAIGHT + "ant a of s at 9 9 faces " + SIDES[side] + "; face a " + SIDES[other]
                    + " when 1 = 1;");
                x.pass(3);
                Check.due("carried out", side == other ? 0 : 1, x.count(9));
                Check.due("side", other, x.ant(0, 3));
            }
        }
    }

    private static void haltCarriedOut() {
        FlagAnts x = Check.taught(STRAIGHT + "ant a of s at 9 9 faces east; halt a when step > 0;");
        x.pass(1);
        Check.due("not yet", 0, x.count(9));
        x.pass(1);
        Check.due("if it walked", 1, x.count(9));
        x.pass(5);
        Check.due("not if it is halted", 1, x.count(9));
        x.halt(0);
        Check.due("by hand it is no order", 1, x.count(9));
        x.pass(1);
        Check.due("it walked again", 2, x.count(9));
        Check.due("steps of the ant", 1, x.ant(0, 5));
    }

    private static void walkCarriedOut() {
        FlagAnts x = Check.taught(STRAIGHT + "ant a of s at 9 9 faces east; walk a when 1 = 1;");
        x.pass(5);
        Check.due("not if it walks", 0, x.count(9));
        x.halt(0);
        x.pass(1);
        Check.due("if it was halted", 1, x.count(9));
        Check.due("steps of the ant", 6, x.ant(0, 5));
    }

    private static void meetingsOfPairs() {
        int[] meetings = {0, 0, 1, 3, 6, 10, 15};
        for (int ants = 1; ants <= 6; ants++) {
            StringBuilder text = new StringBuilder(STRAIGHT);
            for (int i = 0; i < ants; i++) {
                text.append("ant a").append(i).append(" of s at 9 9 faces east; ");
            }
            FlagAnts x = Check.taught(text.toString());
            Check.due("none ahead of the first step", 0, x.count(7));
            x.pass(1);
            Check.due("meetings of " + ants, meetings[ants], x.count(7));
            x.pass(2);
            Check.due("in each step anew", 3 * meetings[ants], x.count(7));
        }
    }

    private static void meetingsOfEachKind() {
        String ants = STRAIGHT + "ant a of s at 9 9 faces east; ant b of s at 20 20 faces east; ant c of s at 30 30 faces east; "
            + "ant d of s at 40 40 faces east; ";
        FlagAnts x = Check.taught(ants);
        x.halt(0);
        x.halt(1);
        x.place(1, 9, 9);
        x.pass(1);
        Check.due("two halted ones", 1, x.count(7));
        x.place(2, 8, 9);
        x.pass(1);
        Check.due("one more walks there", 1 + 3, x.count(7));
        x.pass(1);
        Check.due("and goes on", 4 + 1, x.count(7));
        x.place(0, 8, 9);
        x.place(3, 9, 8);
        x.pass(1);
        Check.due("in the same row or column alone is no meeting", 5, x.count(7));
        FlagAnts y = Check.taught(ants);
        y.place(1, 9, 9);
        y.place(3, 30, 30);
        y.pass(1);
        Check.due("two pairs", 2, y.count(7));
    }

    private static void meetingsBehindTheSteps() {
        FlagAnts x = Check.taught(STRAIGHT + "ant a of s at 9 9 faces east; ant b of s at 11 9 faces west;"
            + " ant c of s at 20 20 faces east; ant d of s at 21 20 faces west; ant e of s at 5 5 faces north;"
            + " ant f of s at 5 5 faces south;");
        x.pass(1);
        Check.due("a and b meet between, c and d pass by, e and f part", 1, x.count(7));
        x.pass(1);
        Check.due("they part", 1, x.count(7));
    }

    private static void stepsAreCountedAtTheEnd() {
        FlagAnts x = Check.taught("paint 1 1 1; wash 1 to 1 when step = 1; paint 1 2 1; wash 2 to 2 when step = 2;");
        x.pass(1);
        Check.due("steps", 1, x.count(0));
        Check.due("in the first step step is 0", 0, x.count(9));
        x.pass(1);
        Check.due("in the second step it is 1", 1, x.count(9));
        Check.due("row 2 stays", 1, x.row(2));
        x.pass(1);
        Check.due("in the third step it is 2", 2, x.count(9));
    }

    private static void allTwentyOrders() {
        StringBuilder text = new StringBuilder();
        for (int i = 0; i < 20; i++) {
            text.append("paint ").append(i).append(" ").append(i).append(" 1; wash ").append(i).append(" to ").append(i)
                .append(" when step = ").append(19 - i).append(";");
        }
        FlagAnts x = Check.taught(text.toString());
        for (int i = 0; i < 20; i++) {
            Check.due("one is washed", -1, x.pass(1));
            Check.due("the row of order " + (19 - i), 0, x.row(19 - i));
        }
    }
}
