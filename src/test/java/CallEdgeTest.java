/** Promises 1 to 16: each call at its bounds and next to them, what it throws first, and that what throws changes nothing. */
public final class CallEdgeTest {
    private static final int LEAST = Integer.MIN_VALUE;
    private static final int MOST = Integer.MAX_VALUE;
    private static final int[] FAR = {LEAST, LEAST + 1, -65536, -256, -64, -2, 256, 4096, 65536, MOST - 1, MOST};
    private static final String FULL = "rule p left right; rule q straight straight; rule r right left back;"
        + " rule s back straight left right; rule t left right straight back left right;"
        + " ant a of p at 0 0 faces north; ant b of q at 63 0 faces east; ant c of r at 0 63 faces south;"
        + " ant d of s at 63 63 faces west; ant e of t at 31 32 faces north; ant f of q at 5 5 faces west;"
        + " paint 0 0 5; paint 63 63 1; wash 0 to 31 when step = 7; halt b when step = 4; face f south when step = 5;";

    public static void main(String[] args) {
        newObject();
        feed();
        trim();
        teachBeginsAnew();
        noGhostsOfTheListBefore(true);
        noGhostsOfTheListBefore(false);
        count();
        countEachStep();
        countWashedByHand();
        stone();
        colour();
        row();
        turn();
        ant();
        paint();
        wash();
        face();
        halt();
        place();
        fiveHundredAndTwelveCalls();
        Check.end();
    }

    private static FlagAnts full() {
        return Check.taught(FULL);
    }

    /** The call throws, and the object is as it was. */
    private static void refuses(FlagAnts x, String what, Class<? extends RuntimeException> want, Check.Call call) {
        long before = x.digest();
        int errorAt = x.errorAt();
        Check.throwsDue(what, want, call);
        Check.due("digest behind " + what, before, x.digest());
        Check.due("errorAt behind " + what, errorAt, x.errorAt());
    }

    private static void noSuch(FlagAnts x, String what, Check.Call call) {
        refuses(x, what, IndexOutOfBoundsException.class, call);
    }

    private static void wrong(FlagAnts x, String what, Check.Call call) {
        refuses(x, what, IllegalArgumentException.class, call);
    }

    /** All numbers of a few that are less than least or greater than most, the nearest ones among them. */
    private static int[] outside(int least, int most) {
        int[] some = new int[FAR.length + 2];
        int size = 0;
        some[size++] = least - 1;
        some[size++] = most + 1;
        for (int far : FAR) {
            if (far < least || far > most) {
                some[size++] = far;
            }
        }
        return java.util.Arrays.copyOf(some, size);
    }

    private static void newObject() {
        FlagAnts x = new FlagAnts();
        for (int what = 0; what <= 10; what++) {
            Check.due("count(" + what + ")", 0, x.count(what));
        }
        Check.due("errorAt", -1, x.errorAt());
        for (int row = 0; row < 64; row++) {
            Check.due("row", 0, x.row(row));
            for (int column = 0; column < 64; column++) {
                Check.due("stone", 0, x.stone(column, row));
            }
        }
        for (int colour = 0; colour <= 5; colour++) {
            Check.due("colour", colour == 0 ? 4096 : 0, x.colour(colour));
            int c = colour;
            noSuch(x, "turn without rules", () -> x.turn(0, c));
        }
        noSuch(x, "ant without ants", () -> x.ant(0, 0));
        noSuch(x, "face without ants", () -> x.face(0, 0));
        noSuch(x, "halt without ants", () -> x.halt(0) ? 1 : 0);
        noSuch(x, "place without ants", () -> x.place(0, 0, 0));
        noSuch(x, "until without ants", () -> x.until(0, 0, 0));
        Check.due("mean", 0.0, x.mean());
        Check.due("found", -1, x.found());
        Check.due("advise", -1, x.advise(300));
        Check.due("pass", 0, x.pass(1000));
        Check.due("steps without ants", 1000, x.count(0));
        Check.due("paint", 0, x.paint(1, 1, 5));
        Check.due("a stone without a list", 5, x.stone(1, 1));
    }

    private static void feed() {
        FlagAnts x = new FlagAnts();
        int blanks = 0x20202020;
        for (int i = 1; i <= 100; i++) {
            Check.due("feed", 20 * i, x.feed(blanks, blanks, blanks, blanks, blanks));
            Check.due("count(10)", 20 * i, x.count(10));
        }
        for (int length = 2000; length >= 1981; length--) {
            Check.due("trim", length, x.trim(length));
            refuses(x, "feed behind " + length, IllegalStateException.class, () -> x.feed(1, 2, 3, 4, 5));
        }
        x.trim(1980);
        Check.due("feed behind 1980", 2000, x.feed(blanks, blanks, blanks, blanks, 0x20202121));
        Check.due("the bytes of the refused ones are not there", 1, x.teach());
        Check.due("errorAt", 1998, x.errorAt());
    }

    private static void trim() {
        FlagAnts x = full();
        Check.due("trim of nothing", 0, x.trim(0));
        wrong(x, "trim(1) of nothing", () -> x.trim(1));
        x.feed(1, 2, 3, 4, 5);
        for (int bad : outside(0, 20)) {
            wrong(x, "trim(" + bad + ")", () -> x.trim(bad));
        }
        Check.due("trim to all", 20, x.trim(20));
        Check.due("trim to all but one", 19, x.trim(19));
        wrong(x, "what is gone is gone", () -> x.trim(20));
        Check.due("trim to one", 1, x.trim(1));
        Check.due("trim to none", 0, x.trim(0));
        for (int i = 0; i < 100; i++) {
            x.feed(1, 2, 3, 4, 5);
        }
        wrong(x, "trim(2001)", () -> x.trim(2001));
        Check.due("trim(2000)", 2000, x.trim(2000));
    }

    private static final String SMALL = "rule z right left; ant y of z at 30 31 faces west; paint 9 9 4;"
        + " halt y when step = 50;";

    /** Whatever was done before, an object that is taught a list goes on as a new one that is. */
    private static void teachBeginsAnew() {
        for (String list : new String[] {"", SMALL, FULL, "paint 3 3 3;", "rule only left left;", longOrders()}) {
            FlagAnts x = full();
            x.place(5, 5, 6);
            x.pass(500);
            x.foresee(1000, 4);
            x.until(0, 1, 1);
            x.found();
            x.advise(30);
            x.paint(50, 50, 5);
            x.wash(0, 5);
            x.halt(0);
            x.face(1, 2);
            for (int i = 0; i < 3; i++) {
                FlagAnts y = Check.taught(list);
                Check.due("teach", 0, Check.teach(x, list));
                Check.due("errorAt", -1, x.errorAt());
                Check.due("steps", 0, x.count(0));
                for (int steps : new int[] {1, 2, 60, 1000}) {
                    Check.same("behind the list " + list, x, y);
                    Check.due("found", y.found(), x.found());
                    Check.due("advise", y.advise(9), x.advise(9));
                    Check.due("foresee", y.foresee(300, 7), x.foresee(300, 7));
                    Check.due("pass", y.pass(steps), x.pass(steps));
                }
            }
        }
    }

    /** A list of nearly as many tokens as there can be, with long tests whose last values decide. */
    private static String longOrders() {
        StringBuilder text = new StringBuilder("rule s straight straight; ant a of s at 3 3 faces east; ");
        for (int i = 0; i < 4; i++) {
            text.append("paint 5 ").append(20 + i).append(" 1; wash ").append(20 + i).append(" to ").append(20 + i)
                .append(" when 0").append(" + 1".repeat(38)).append(" = step + ").append(30 - 7 * i).append("; ");
        }
        return text.toString();
    }

    /** The ants and orders of the list before are gone, also where the new one has fewer. */
    private static void noGhostsOfTheListBefore(boolean placed) {
        String six = "rule s straight straight; ";
        for (int i = 0; i < 6; i++) {
            six += "ant a" + i + " of s at 10 10 faces east; wash 10 to 10 when step = " + i + "; ";
        }
        FlagAnts x = Check.taught(six);
        x.halt(4);
        x.pass(5);
        Check.due("meetings", 5 * 10, x.count(7));
        for (int ant = 0; placed && ant < 6; ant++) {
            x.place(ant, 10, 10);
        }
        Check.due("teach", 0, Check.teach(x, "rule r left left; ant b of r at 10 10 faces west; halt b when meets b;"));
        Check.due("ants", 1, x.count(2));
        Check.due("ants that walk", 1, x.count(6));
        Check.due("found", -1, x.found());
        for (int ant = 1; ant < 6; ant++) {
            int gone = ant;
            noSuch(x, "ant", () -> x.ant(gone, 0));
            noSuch(x, "face", () -> x.face(gone, 0));
            noSuch(x, "halt", () -> x.halt(gone) ? 1 : 0);
            noSuch(x, "place", () -> x.place(gone, 0, 0));
            noSuch(x, "until", () -> x.until(gone, 0, 0));
        }
        noSuch(x, "turn", () -> x.turn(1, 0));
        Check.due("one ant darkens its four stones", 4, x.pass(4));
        Check.due("no meetings", 0, x.count(7));
        Check.due("no orders", 0, x.count(9));
        Check.due("back on the first one", 640 + 10, x.place(0, 10, 10));
    }

    private static void count() {
        FlagAnts x = full();
        int[] due = {0, 5, 6, 3, 2, 6, 6, 0, 0, 0, 0};
        for (int what = 0; what <= 10; what++) {
            Check.due("count(" + what + ")", due[what], x.count(what));
        }
        for (int bad : outside(0, 10)) {
            noSuch(x, "count(" + bad + ")", () -> x.count(bad));
        }
    }

    private static void countEachStep() {
        FlagAnts x = Check.taught("rule s straight straight; ant a of s at 5 5 faces east; ant b of s at 5 5 faces west;"
            + " ant c of s at 5 5 faces west; halt a when step = 1; wash 5 to 5 when step = 2; paint 60 60 5; paint 9 5 4;");
        x.feed(1, 2, 3, 4, 5);
        int[][] due = {{0, 1, 3, 2, 2, 9, 3, 0, 0, 0, 20}, {1, 1, 3, 2, 3, 10, 3, 1, 0, 0, 20},
            {2, 1, 3, 2, 3, 10, 2, 2, 0, 1, 20}, {3, 1, 3, 2, 1, 5, 2, 3, 2, 2, 20}};
        for (int steps = 0; steps <= 3; steps++) {
            for (int what = 0; what <= 10; what++) {
                Check.due("count(" + what + ") behind " + steps, due[steps][what], x.count(what));
            }
            if (steps < 3) {
                x.pass(1);
            }
        }
    }

    private static void countWashedByHand() {
        FlagAnts x = Check.taught("paint 60 60 5; paint 61 60 1; paint 1 2 1; wash 2 to 2 when step = 0;");
        x.pass(1);
        Check.due("washed by an order", 1, x.count(8));
        x.wash(60, 60);
        Check.due("washed by hand", 3, x.count(8));
        Check.due("that is no order", 1, x.count(9));
        x.wash(60, 60);
        Check.due("nothing is left to wash", 3, x.count(8));
        x.paint(1, 1, 1);
        x.paint(1, 1, 0);
        Check.due("painting is no washing", 3, x.count(8));
    }

    /** As many steps as an object can make in its calls. */
    private static void fiveHundredAndTwelveCalls() {
        StringBuilder text = new StringBuilder("rule s straight straight;");
        for (int i = 0; i < 6; i++) {
            text.append("ant a").append(i).append(" of s at 0 9 faces east;");
        }
        FlagAnts x = Check.taught(text.append("wash 0 to 9 when step / 2 * 2 = step;").toString());
        for (int i = 1; i <= 495; i++) {
            x.pass(1000);
        }
        Check.due("steps", 495000, x.count(0));
        Check.due("steps of an ant", 495000, x.ant(5, 5));
        Check.due("column", 495000 % 64, x.ant(5, 1));
        Check.due("meetings", 15 * 495000, x.count(7));
        Check.due("highway", 1, x.ant(0, 6));
        Check.due("washed", 0, x.count(8));
        Check.due("orders carried out", 0, x.count(9));
    }

    private static void stone() {
        FlagAnts x = full();
        Check.due("stone(0, 0)", 5, x.stone(0, 0));
        Check.due("stone(63, 63)", 1, x.stone(63, 63));
        Check.due("stone(63, 0)", 0, x.stone(63, 0));
        Check.due("stone(0, 63)", 0, x.stone(0, 63));
        for (int bad : outside(0, 63)) {
            noSuch(x, "stone(" + bad + ", 0)", () -> x.stone(bad, 0));
            noSuch(x, "stone(63, " + bad + ")", () -> x.stone(63, bad));
            noSuch(x, "stone(" + bad + ", " + bad + ")", () -> x.stone(bad, bad));
        }
        // a wrong column may not slip over into the next row
        noSuch(x, "stone(64, 62)", () -> x.stone(64, 62));
        noSuch(x, "stone(-1, 1)", () -> x.stone(-1, 1));
    }

    private static void colour() {
        FlagAnts x = full();
        int[] due = {4094, 1, 0, 0, 0, 1};
        for (int colour = 0; colour <= 5; colour++) {
            Check.due("colour(" + colour + ")", due[colour], x.colour(colour));
        }
        for (int bad : outside(0, 5)) {
            noSuch(x, "colour(" + bad + ")", () -> x.colour(bad));
        }
    }

    private static void row() {
        FlagAnts x = full();
        Check.due("row(0)", 1, x.row(0));
        Check.due("row(1)", 0, x.row(1));
        Check.due("row(62)", 0, x.row(62));
        Check.due("row(63)", 1, x.row(63));
        for (int column = 0; column < 64; column++) {
            x.paint(column, 20, 1 + column % 5);
            Check.due("row(20)", column + 1, x.row(20));
        }
        for (int bad : outside(0, 63)) {
            noSuch(x, "row(" + bad + ")", () -> x.row(bad));
        }
    }

    private static void turn() {
        FlagAnts x = full();
        int[][] due = {{0, 1, 0, 1, 0, 1}, {2, 2, 2, 2, 2, 2}, {1, 0, 3, 1, 0, 3}, {3, 2, 0, 1, 3, 2}, {0, 1, 2, 3, 0, 1}};
        for (int rule = 0; rule < 5; rule++) {
            for (int colour = 0; colour <= 5; colour++) {
                Check.due("turn(" + rule + ", " + colour + ")", due[rule][colour], x.turn(rule, colour));
            }
        }
        for (int bad : outside(0, 4)) {
            noSuch(x, "turn(" + bad + ", 0)", () -> x.turn(bad, 0));
        }
        for (int bad : outside(0, 5)) {
            noSuch(x, "turn(0, " + bad + ")", () -> x.turn(0, bad));
            noSuch(x, "turn(4, " + bad + ")", () -> x.turn(4, bad));
        }
        FlagAnts y = Check.taught("rule r left right;");
        Check.due("the only rule", 1, y.turn(0, 5));
        noSuch(y, "turn(1, 0)", () -> y.turn(1, 0));
    }

    private static void ant() {
        FlagAnts x = full();
        int[][] due = {{0, 0, 0, 0}, {1, 63, 0, 1}, {2, 0, 63, 2}, {3, 63, 63, 3}, {4, 31, 32, 0}, {1, 5, 5, 3}};
        for (int ant = 0; ant < 6; ant++) {
            for (int what = 0; what <= 8; what++) {
                int want = what < 4 ? due[ant][what] : what == 4 ? 1 : 0;
                Check.due("ant(" + ant + ", " + what + ")", want, x.ant(ant, what));
            }
        }
        x.pass(6);
        int[] steps = {6, 4, 6, 6, 6, 6};
        for (int ant = 0; ant < 6; ant++) {
            Check.due("steps in all", steps[ant], x.ant(ant, 5));
            Check.due("walks", ant == 1 ? 0 : 1, x.ant(ant, 4));
        }
        Check.due("the highway of b", 1, x.ant(1, 6));
        Check.due("to the east", 1, x.ant(1, 7));
        Check.due("to the south", 0, x.ant(1, 8));
        for (int bad : outside(0, 5)) {
            noSuch(x, "ant(" + bad + ", 0)", () -> x.ant(bad, 0));
            noSuch(x, "ant(" + bad + ", 8)", () -> x.ant(bad, 8));
        }
        for (int bad : outside(0, 8)) {
            noSuch(x, "ant(0, " + bad + ")", () -> x.ant(0, bad));
            noSuch(x, "ant(5, " + bad + ")", () -> x.ant(5, bad));
        }
        FlagAnts y = Check.taught(SMALL);
        noSuch(y, "ant(1, 0)", () -> y.ant(1, 0));
    }

    private static void paint() {
        FlagAnts x = full();
        int before = 0;
        for (int colour : new int[] {5, 0, 1, 1, 2, 3, 4, 5, 0, 0}) {
            Check.due("paint " + colour, before, x.paint(62, 1, colour));
            Check.due("stone", colour, x.stone(62, 1));
            Check.due("row", colour == 0 ? 0 : 1, x.row(1));
            Check.due("dark", colour == 0 ? 2 : 3, x.count(4));
            Check.due("colours", 6 + colour, x.count(5));
            before = colour;
        }
        for (int place : new int[] {0, 63}) {
            for (int other : new int[] {0, 63}) {
                int was = x.stone(place, other);
                Check.due("paint a corner", was, x.paint(place, other, 3));
                Check.due("stone", 3, x.stone(place, other));
            }
        }
        for (int bad : outside(0, 63)) {
            noSuch(x, "paint(" + bad + ", 0, 1)", () -> x.paint(bad, 0, 1));
            noSuch(x, "paint(0, " + bad + ", 1)", () -> x.paint(0, bad, 1));
            noSuch(x, "the stone is named first: " + bad, () -> x.paint(bad, 0, 6));
            noSuch(x, "the stone is named first: " + bad, () -> x.paint(0, bad, -1));
        }
        for (int bad : outside(0, 5)) {
            wrong(x, "paint(0, 0, " + bad + ")", () -> x.paint(0, 0, bad));
            wrong(x, "paint(63, 63, " + bad + ")", () -> x.paint(63, 63, bad));
        }
    }

    private static FlagAnts diagonal() {
        StringBuilder text = new StringBuilder();
        for (int i = 0; i < 64; i++) {
            text.append("paint ").append(63 - i).append(" ").append(i).append(" ").append(1 + i % 5).append(";");
        }
        return Check.taught(text.toString());
    }

    private static void wash() {
        int[][] ranges = {{0, 0}, {0, 1}, {0, 62}, {0, 63}, {1, 63}, {31, 31}, {62, 63}, {63, 63}};
        for (int[] range : ranges) {
            FlagAnts x = diagonal();
            int rows = range[1] - range[0] + 1;
            Check.due("wash(" + range[0] + ", " + range[1] + ")", rows, x.wash(range[0], range[1]));
            for (int row = 0; row < 64; row++) {
                boolean washed = row >= range[0] && row <= range[1];
                Check.due("row " + row, washed ? 0 : 1, x.row(row));
                Check.due("stone of row " + row, washed ? 0 : 1 + row % 5, x.stone(63 - row, row));
            }
            Check.due("washed in all", rows, x.count(8));
            Check.due("nothing is left", 0, x.wash(range[0], range[1]));
            Check.due("washed in all", rows, x.count(8));
            Check.due("no order was carried out", 0, x.count(9));
        }
        FlagAnts x = diagonal();
        for (int bad : outside(0, 63)) {
            noSuch(x, "wash(" + bad + ", 63)", () -> x.wash(bad, 63));
            noSuch(x, "wash(0, " + bad + ")", () -> x.wash(0, bad));
            noSuch(x, "the row is named first: " + bad, () -> x.wash(63, bad));
            noSuch(x, "the row is named first: " + bad, () -> x.wash(bad, 0));
        }
        for (int from = 1; from < 64; from++) {
            int f = from;
            wrong(x, "wash(" + from + ", " + (from - 1) + ")", () -> x.wash(f, f - 1));
        }
        wrong(x, "wash(63, 0)", () -> x.wash(63, 0));
    }

    private static void face() {
        FlagAnts x = full();
        int before = 0;
        for (int side : new int[] {3, 0, 1, 2, 3, 3, 1, 0}) {
            Check.due("face", before, x.face(4, side));
            Check.due("side", side, x.ant(4, 3));
            before = side;
        }
        Check.due("place of the ant", 32 * 64 + 31, x.ant(4, 2) * 64 + x.ant(4, 1));
        Check.due("no order was carried out", 0, x.count(9));
        Check.due("the other ants face as before", 3, x.face(5, 0));
        for (int bad : outside(0, 5)) {
            noSuch(x, "face(" + bad + ", 0)", () -> x.face(bad, 0));
        }
        for (int bad : outside(0, 3)) {
            noSuch(x, "face(0, " + bad + ")", () -> x.face(0, bad));
            noSuch(x, "face(5, " + bad + ")", () -> x.face(5, bad));
        }
        x.pass(1);
        Check.due("it goes by the side it was given", 1, x.ant(4, 1) == 30 ? 1 : 0);
    }

    private static void halt() {
        FlagAnts x = full();
        for (int ant = 0; ant < 6; ant++) {
            Check.due("halts", 0, x.halt(ant) ? 1 : 0);
            Check.due("ants that walk", 5 - ant, x.count(6));
            Check.due("walks", 0, x.ant(ant, 4));
        }
        Check.due("nothing moves", 0, x.pass(3));
        Check.due("walks again", 1, x.halt(5) ? 1 : 0);
        Check.due("ants that walk", 1, x.count(6));
        Check.due("halts again", 0, x.halt(5) ? 1 : 0);
        Check.due("no order was carried out", 0, x.count(9));
        for (int bad : outside(0, 5)) {
            noSuch(x, "halt(" + bad + ")", () -> x.halt(bad) ? 1 : 0);
        }
        FlagAnts y = Check.taught(SMALL);
        noSuch(y, "halt(1)", () -> y.halt(1) ? 1 : 0);
    }

    private static void place() {
        FlagAnts x = full();
        int before = 32 * 64 + 31;
        for (int[] place : new int[][] {{0, 0}, {63, 0}, {0, 63}, {63, 63}, {63, 63}, {1, 62}}) {
            Check.due("place", before, x.place(4, place[0], place[1]));
            Check.due("column", place[0], x.ant(4, 1));
            Check.due("row", place[1], x.ant(4, 2));
            Check.due("it faces as before", 0, x.ant(4, 3));
            before = place[1] * 64 + place[0];
        }
        Check.due("no meetings without a step", 0, x.count(7));
        Check.due("no steps", 0, x.ant(4, 5));
        for (int bad : outside(0, 5)) {
            noSuch(x, "place(" + bad + ", 0, 0)", () -> x.place(bad, 0, 0));
        }
        for (int bad : outside(0, 63)) {
            noSuch(x, "place(0, " + bad + ", 0)", () -> x.place(0, bad, 0));
            noSuch(x, "place(5, 0, " + bad + ")", () -> x.place(5, 0, bad));
        }
        FlagAnts y = Check.taught(SMALL);
        noSuch(y, "place(1, 0, 0)", () -> y.place(1, 0, 0));
    }
}
