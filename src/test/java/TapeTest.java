/** Promises 1, 2 and 3: a new object, feed and trim. */
public final class TapeTest {
    public static void main(String[] args) {
        newObject();
        feedAppends();
        feedRefuses();
        trims();
        Check.end();
    }

    private static void newObject() {
        FlagAnts x = new FlagAnts();
        for (int what = 0; what <= 10; what++) {
            Check.due("count(" + what + ") at first", 0, x.count(what));
        }
        Check.due("colour(0) at first", 4096, x.colour(0));
        for (int place = 0; place < 4096; place++) {
            Check.due("stone at first", 0, x.stone(place % 64, place / 64));
        }
        Check.due("errorAt at first", -1, x.errorAt());
        Check.bounds("turn at first", () -> x.turn(0, 0));
        Check.bounds("ant at first", () -> x.ant(0, 0));
    }

    private static void feedAppends() {
        FlagAnts x = new FlagAnts();
        Check.due("feed", 20, x.feed(0x7061696e, 0x74203320, 0x3420353b, 0x20202020, 0x20202020));
        Check.due("count(10)", 20, x.count(10));
        Check.due("feed", 40, x.feed(0x7061696e, 0x74203120, 0x3220333b, 0x20202020, 0x0a0a0a20));
        Check.due("teach", 0, x.teach());
        Check.due("stone(3, 4)", 5, x.stone(3, 4));
        Check.due("stone(1, 2)", 3, x.stone(1, 2));
        Check.due("tape behind teach", 0, x.count(10));
        x.feed(0x3b808080, -1, Integer.MIN_VALUE, 0, 1);
        Check.due("teach", 1, x.teach());
        Check.due("errorAt", 0, x.errorAt());
    }

    private static void feedRefuses() {
        FlagAnts x = new FlagAnts();
        for (int i = 1; i <= 100; i++) {
            Check.due("feed", 20 * i, x.feed(0x20202020, 0x20202020, 0x20202020, 0x20202020, 0x20202020));
        }
        Check.throwsDue("feed beyond 2000", IllegalStateException.class, () -> x.feed(1, 2, 3, 4, 5));
        Check.due("tape", 2000, x.count(10));
        x.trim(1981);
        Check.throwsDue("feed beyond 2000", IllegalStateException.class, () -> x.feed(1, 2, 3, 4, 5));
        Check.due("tape", 1981, x.count(10));
        x.trim(1980);
        Check.due("feed to 2000", 2000, x.feed(0x20202020, 0x20202020, 0x20202020, 0x20202020, 0x3b202020));
        Check.due("teach", 1, x.teach());
        Check.due("errorAt", 1996, x.errorAt());
    }

    private static void trims() {
        FlagAnts x = new FlagAnts();
        Check.due("trim(0) of nothing", 0, x.trim(0));
        Check.argument("trim(1) of nothing", () -> x.trim(1));
        x.feed(0, 0, 0, 0, 0);
        Check.argument("trim(21)", () -> x.trim(21));
        Check.argument("trim(-1)", () -> x.trim(-1));
        Check.argument("trim(least)", () -> x.trim(Integer.MIN_VALUE));
        Check.due("tape", 20, x.count(10));
        Check.due("trim(20)", 20, x.trim(20));
        Check.due("trim(7)", 7, x.trim(7));
        Check.due("tape", 7, x.count(10));
        Check.due("trim(0)", 0, x.trim(0));
        Check.due("teach of nothing", 0, x.teach());
    }
}
