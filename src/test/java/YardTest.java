/** Promises 6 to 16: what there is, and what is done by hand. */
public final class YardTest {
    private static final int LEAST = Integer.MIN_VALUE;
    private static final int MOST = Integer.MAX_VALUE;

    public static void main(String[] args) {
        counts();
        stonesAndColours();
        turns();
        ants();
        paints();
        washes();
        faces();
        halts();
        places();
        Check.end();
    }

    private static FlagAnts some() {
        return Check.taught("rule r left right straight; rule s back back; ant a of s at 10 20 faces east;"
            + " ant b of r at 30 40 faces south; paint 3 4 5; paint 5 4 1; paint 3 5 1;"
            + " wash 4 to 4 when step = 3; halt b when step = 5; face a north when step = 100;");
    }

    private static void counts() {
        FlagAnts x = some();
        int[] due = {0, 2, 2, 3, 3, 7, 2, 0, 0, 0, 0};
        for (int what = 0; what <= 10; what++) {
            Check.due("count(" + what + ")", due[what], x.count(what));
        }
        x.feed(1, 2, 3, 4, 5);
        Check.due("bytes", 20, x.count(10));
        Check.bounds("count(-1)", () -> x.count(-1));
        Check.bounds("count(11)", () -> x.count(11));
        Check.bounds("count(least)", () -> x.count(LEAST));
        Check.bounds("count(most)", () -> x.count(MOST));
        x.pass(10);
        Check.due("steps", 10, x.count(0));
        Check.due("ants that walk", 1, x.count(6));
        Check.due("washed", 2, x.count(8));
        Check.due("carried out", 2, x.count(9));
        x.wash(0, 63);
        Check.due("dark", 0, x.count(4));
        Check.due("colours", 0, x.count(5));
        Check.due("carried out", 2, x.count(9));
    }

    private static void stonesAndColours() {
        FlagAnts x = some();
        Check.due("stone(3, 4)", 5, x.stone(3, 4));
        Check.due("stone(4, 3)", 0, x.stone(4, 3));
        Check.due("stone(63, 63)", 0, x.stone(63, 63));
        int[] due = {4093, 2, 0, 0, 0, 1};
        for (int colour = 0; colour < 6; colour++) {
            Check.due("colour(" + colour + ")", due[colour], x.colour(colour));
        }
        Check.due("row(4)", 2, x.row(4));
        Check.due("row(5)", 1, x.row(5));
        Check.due("row(3)", 0, x.row(3));
        for (int bad : new int[] {-1, 64, LEAST, MOST}) {
            Check.bounds("stone(" + bad + ", 0)", () -> x.stone(bad, 0));
            Check.bounds("stone(0, " + bad + ")", () -> x.stone(0, bad));
            Check.bounds("row(" + bad + ")", () -> x.row(bad));
            Check.bounds("colour(" + bad + ")", () -> x.colour(bad));
        }
        Check.bounds("colour(6)", () -> x.colour(6));
    }

    private static void turns() {
        FlagAnts x = some();
        int[] due = {0, 1, 2, 0, 1, 2};
        for (int colour = 0; colour < 6; colour++) {
            Check.due("turn(0, " + colour + ")", due[colour], x.turn(0, colour));
            Check.due("turn(1, " + colour + ")", 3, x.turn(1, colour));
        }
        for (int bad : new int[] {-1, 2, 6, LEAST, MOST}) {
            Check.bounds("turn(" + bad + ", 0)", () -> x.turn(bad, 0));
        }
        for (int bad : new int[] {-1, 6, LEAST, MOST}) {
            Check.bounds("turn(0, " + bad + ")", () -> x.turn(0, bad));
        }
    }

    private static void dueAnt(FlagAnts x, int ant, int... due) {
        for (int what = 0; what <= 8; what++) {
            Check.due("ant(" + ant + ", " + what + ")", due[what], x.ant(ant, what));
        }
    }

    private static void ants() {
        FlagAnts x = some();
        dueAnt(x, 0, 1, 10, 20, 1, 1, 0, 0, 0, 0);
        dueAnt(x, 1, 0, 30, 40, 2, 1, 0, 0, 0, 0);
        x.pass(6);
        dueAnt(x, 0, 1, 10, 20, 1, 1, 6, 0, 0, 0);
        Check.due("ant(1, 4)", 0, x.ant(1, 4));
        Check.due("ant(1, 5)", 5, x.ant(1, 5));
        for (int bad : new int[] {-1, 2, 6, LEAST, MOST}) {
            Check.bounds("ant(" + bad + ", 0)", () -> x.ant(bad, 0));
        }
        for (int bad : new int[] {-1, 9, LEAST, MOST}) {
            Check.bounds("ant(0, " + bad + ")", () -> x.ant(0, bad));
        }
    }

    private static void paints() {
        FlagAnts x = some();
        Check.due("paint", 5, x.paint(3, 4, 2));
        Check.due("paint", 2, x.paint(3, 4, 0));
        Check.due("paint", 0, x.paint(63, 63, 5));
        Check.due("paint", 5, x.paint(63, 63, 5));
        Check.due("row(4)", 1, x.row(4));
        Check.due("row(63)", 1, x.row(63));
        Check.due("colours", 7, x.count(5));
        Check.due("washed", 0, x.count(8));
        long before = x.digest();
        Check.argument("paint -1", () -> x.paint(0, 0, -1));
        Check.argument("paint 6", () -> x.paint(0, 0, 6));
        Check.bounds("both are wrong", () -> x.paint(64, 0, 6));
        for (int bad : new int[] {-1, 64, LEAST, MOST}) {
            Check.bounds("paint(" + bad + ", 0, 1)", () -> x.paint(bad, 0, 1));
            Check.bounds("paint(0, " + bad + ", 1)", () -> x.paint(0, bad, 1));
        }
        Check.due("nothing is changed", before, x.digest());
    }

    private static void washes() {
        FlagAnts x = some();
        Check.due("wash(0, 3)", 0, x.wash(0, 3));
        Check.due("wash(4, 4)", 2, x.wash(4, 4));
        Check.due("wash(0, 63)", 1, x.wash(0, 63));
        Check.due("washed", 3, x.count(8));
        Check.due("carried out", 0, x.count(9));
        Check.due("colour(0)", 4096, x.colour(0));
        x.paint(0, 10, 1);
        long before = x.digest();
        Check.argument("wash(11, 10)", () -> x.wash(11, 10));
        Check.bounds("both are wrong", () -> x.wash(64, 0));
        for (int bad : new int[] {-1, 64, LEAST, MOST}) {
            Check.bounds("wash(" + bad + ", 63)", () -> x.wash(bad, 63));
            Check.bounds("wash(0, " + bad + ")", () -> x.wash(0, bad));
        }
        Check.due("nothing is changed", before, x.digest());
    }

    private static void faces() {
        FlagAnts x = Check.taught("rule s straight straight; ant a of s at 0 0 faces north;");
        x.pass(2);
        Check.due("two steps are too short a path", 0, x.ant(0, 6));
        x.pass(1);
        Check.due("period", 1, x.ant(0, 6));
        Check.due("face", 0, x.face(0, 0));
        Check.due("the path begins anew", 0, x.ant(0, 6));
        Check.due("steps in all stay", 3, x.ant(0, 5));
        Check.due("face", 0, x.face(0, 3));
        Check.due("side", 3, x.ant(0, 3));
        Check.due("place", 61, x.ant(0, 2));
        x.pass(2);
        Check.due("period", 0, x.ant(0, 6));
        x.pass(1);
        Check.due("period", 1, x.ant(0, 6));
        Check.due("to the east", -1, x.ant(0, 7));
        Check.due("to the south", 0, x.ant(0, 8));
        for (int bad : new int[] {-1, 1, LEAST, MOST}) {
            Check.bounds("face(" + bad + ", 0)", () -> x.face(bad, 0));
        }
        for (int bad : new int[] {-1, 4, LEAST, MOST}) {
            Check.bounds("face(0, " + bad + ")", () -> x.face(0, bad));
        }
        Check.due("the path stays", 1, x.ant(0, 6));
    }

    private static void halts() {
        FlagAnts x = Check.taught("rule s straight straight; ant a of s at 0 0 faces east; ant b of s at 0 1 faces east;");
        x.pass(2);
        Check.due("halt", 0, x.halt(0) ? 1 : 0);
        Check.due("walks", 0, x.ant(0, 4));
        Check.due("ants that walk", 1, x.count(6));
        x.pass(5);
        Check.due("column", 2, x.ant(0, 1));
        Check.due("column", 7, x.ant(1, 1));
        Check.due("halt", 1, x.halt(0) ? 1 : 0);
        x.pass(1);
        Check.due("the path goes on behind a halt", 1, x.ant(0, 6));
        Check.due("carried out", 0, x.count(9));
        for (int bad : new int[] {-1, 2, LEAST, MOST}) {
            Check.bounds("halt(" + bad + ")", () -> x.halt(bad) ? 1 : 0);
        }
    }

    private static void places() {
        FlagAnts x = Check.taught("rule s straight straight; ant a of s at 7 9 faces west;");
        x.pass(3);
        Check.due("place", 64 * 9 + 4, x.place(0, 63, 62));
        Check.due("column", 63, x.ant(0, 1));
        Check.due("row", 62, x.ant(0, 2));
        Check.due("side", 3, x.ant(0, 3));
        Check.due("the path begins anew", 0, x.ant(0, 6));
        x.pass(3);
        Check.due("period", 1, x.ant(0, 6));
        Check.due("place where it stands", 64 * 62 + 60, x.place(0, 60, 62));
        Check.due("the path begins anew", 0, x.ant(0, 6));
        long before = x.digest();
        for (int bad : new int[] {-1, 1, LEAST, MOST}) {
            Check.bounds("place(" + bad + ", 0, 0)", () -> x.place(bad, 0, 0));
        }
        for (int bad : new int[] {-1, 64, LEAST, MOST}) {
            Check.bounds("place(0, " + bad + ", 0)", () -> x.place(0, bad, 0));
            Check.bounds("place(0, 0, " + bad + ")", () -> x.place(0, 0, bad));
        }
        Check.due("nothing is changed", before, x.digest());
    }
}
