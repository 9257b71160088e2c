import java.nio.charset.StandardCharsets;
import java.util.ArrayList;
import java.util.List;
import java.util.Random;

/** All promises: runs of calls, drawn with fixed seeds, have to answer as the slow model of the document does. */
public final class ModelTest {
    private static final String[] TURNS = {"left", "right", "straight", "back"};
    private static final String[] SIDES = {"north", "east", "south", "west"};
    private static final String[] STRAY = {"rule", "left", "back", "ant", "of", "at", "faces", "north", "paint", "wash",
        "to", "face", "halt", "walk", "when", "step", "dark", "across", "down", "period", "row", "meets", "halted", "not",
        "and", "or", "min", "max", "(", ")", "[", "]", ";", ",", "+", "-", "*", "/", "<", ">", "=", "<=", ">=", "a0", "r0",
        "zz", "7", "64", "1234567", "abcdefghijk", "abcdefghij", "999999", "!", "A", "\n", "\t"};

    private final Random random;
    private int rules;
    private int ants;

    private ModelTest(long seed) {
        random = new Random(seed);
    }

    public static void main(String[] args) {
        int runs = args.length > 0 ? Integer.parseInt(args[0]) : 60;
        int lists = args.length > 1 ? Integer.parseInt(args[1]) : 600;
        long seed = args.length > 2 ? Long.parseLong(args[2]) : 0;
        for (int run = 0; run < runs; run++) {
            new ModelTest(1000003 * seed + run).run(run);
        }
        new ModelTest(7919 + seed).errors(lists);
        Check.end();
    }

    // ---- lists

    private int below(int bound) {
        return random.nextInt(bound);
    }

    private String list(int size) {
        rules = 0;
        ants = 0;
        StringBuilder text = new StringBuilder();
        int near = below(64);
        for (int i = 1 + below(5); i > 0; i--) {
            text.append(rule());
        }
        for (int i = 1 + below(6); i > 0; i--) {
            text.append(ant(near));
        }
        for (int i = below(6); i > 0; i--) {
            text.append("paint " + below(64) + " " + below(64) + " " + below(6) + ";");
        }
        for (int i = below(size); i > 0; i--) {
            text.append(order());
        }
        return text.toString();
    }

    private String rule() {
        StringBuilder text = new StringBuilder("rule r" + rules++);
        boolean calm = below(3) == 0;
        for (int i = 2 + below(5); i > 0; i--) {
            text.append(" ").append(TURNS[calm ? 2 : below(4)]);
        }
        return text.append("; ").toString();
    }

    private String ant(int near) {
        int column = below(2) == 0 ? near : near / 2 + below(6);
        int row = below(2) == 0 ? near : near / 2 + below(6);
        return "ant a" + ants++ + " of r" + below(rules) + " at " + column + " " + row + " faces " + SIDES[below(4)] + ";\n";
    }

    private String order() {
        String when = " when " + test(below(4)) + ";";
        switch (below(4)) {
            case 0:
                int from = below(64);
                return "wash " + from + " to " + (from + below(64 - from)) + when;
            case 1: return "face a" + below(ants) + " " + SIDES[below(4)] + when;
            case 2: return "halt a" + below(ants) + when;
            default: return "walk a" + below(ants) + when;
        }
    }

    private String test(int deep) {
        if (deep > 0) {
            switch (below(4)) {
                case 0: return test(deep - 1) + " and " + test(deep - 1);
                case 1: return test(deep - 1) + " or " + test(deep - 1);
                case 2: return "not " + (below(2) == 0 ? "[" + test(deep - 1) + "]" : single());
                default: return "[" + test(deep - 1) + "]";
            }
        }
        return single();
    }

    private String single() {
        switch (below(8)) {
            case 0: return "meets a" + below(ants);
            case 1: return "halted a" + below(ants);
            case 2: return "period a" + below(ants) + " = " + below(5);
            case 3: return "step - step / " + (2 + below(40)) + " * " + (2 + below(40)) + " = " + below(30);
            default: return sum(below(4)) + " " + new String[] {"<", ">", "=", "<=", ">="}[below(5)] + " " + sum(below(4));
        }
    }

    private String sum(int deep) {
        if (deep > 0) {
            switch (below(8)) {
                case 0: return sum(deep - 1) + " + " + sum(deep - 1);
                case 1: return sum(deep - 1) + "-" + sum(deep - 1);
                case 2: return sum(deep - 1) + " * " + sum(deep - 1);
                case 3: return sum(deep - 1) + "/" + sum(deep - 1);
                case 4: return "min(" + sum(deep - 1) + "," + sum(deep - 1) + ")";
                case 5: return "max ( " + sum(deep - 1) + " , " + sum(deep - 1) + ")";
                case 6: return "row(" + sum(deep - 1) + ")";
                default: return "-(" + sum(deep - 1) + ")";
            }
        }
        switch (below(6)) {
            case 0: return "step";
            case 1: return "dark";
            case 2: return "across a" + below(ants);
            case 3: return "down a" + below(ants);
            case 4: return "" + below(70);
            default: return "" + below(1000000);
        }
    }

    private String scrambled(String text) {
        List<String> tokens = new ArrayList<>();
        for (Model.Token t : Model.tokens(text.getBytes(StandardCharsets.ISO_8859_1))) {
            tokens.add(t.text);
        }
        for (int i = below(4); i > 0; i--) {
            int at = below(tokens.size());
            switch (below(4)) {
                case 0: tokens.remove(at); break;
                case 1: tokens.add(at, STRAY[below(STRAY.length)]); break;
                case 2: tokens.set(at, tokens.get(below(tokens.size()))); break;
                default: tokens.set(at, STRAY[below(STRAY.length)]); break;
            }
            if (tokens.isEmpty()) {
                tokens.add(";");
            }
        }
        String joined = String.join(below(2) == 0 ? " " : "\n ", tokens);
        return below(8) == 0 ? joined.substring(0, below(joined.length() + 1)) : joined;
    }

    /** A text whose grammar stays whole, with other names, numbers and turns, and with lines told twice. */
    private String blundered(String text) {
        List<String> lines = new ArrayList<>();
        for (String line : text.split(";")) {
            lines.add(line);
            for (int i = below(12) == 0 ? 1 + below(20) : 0; i > 0; i--) {
                lines.add(line.replaceFirst("(rule|ant) (r|a)", "$1 $2" + i));
            }
        }
        List<String> words = new ArrayList<>();
        for (String word : String.join(" ; ", lines).split(" ")) {
            boolean changes = below(40) == 0;
            if (changes && word.matches("[0-9]+")) {
                words.add("" + below(80));
            } else if (changes && word.matches("[ar][0-9]")) {
                words.add(new String[] {"a", "r"}[below(2)] + below(7));
            } else if (changes && word.matches("left|right|straight|back")) {
                words.add(word + " left".repeat(below(4)));
            } else {
                words.add(word);
            }
        }
        return String.join(" ", words) + ";";
    }

    /** Every tenth of these lists is deep: a nest whose innermost token is around the depth 8. */
    private String deepList() {
        StringBuilder text = new StringBuilder("wash 1 to 2 when ");
        for (int i = 5 + below(5); i > 0; i--) {
            text.append(new String[] {"not ", "[ ", "["}[below(3)]);
        }
        for (int i = below(6); i > 0; i--) {
            text.append(new String[] {"- ", "( ", "row(", "min ( 1 , ", "max("}[below(5)]);
        }
        return text.append("1 = 1 ;").toString();
    }

    private void errors(int lists) {
        Model model = new Model();
        FlagAnts x = new FlagAnts();
        for (int i = 0; i < lists; i++) {
            String text = i % 10 == 0 ? deepList() : i % 2 == 0 ? blundered(list(5)) : scrambled(list(10));
            if (text.length() > 1980) {
                text = text.substring(0, 1980);
            }
            teachBoth(model, x, text);
            Check.due("digest behind " + text, model.digest(), x.digest());
        }
    }

    private static void teachBoth(Model model, FlagAnts x, String text) {
        model.tape = text.getBytes(StandardCharsets.ISO_8859_1);
        Check.type(x, text);
        Check.due("teach of " + text, model.teach(), x.teach());
        Check.due("errorAt behind " + text, model.errorAt, x.errorAt());
    }

    // ---- calls

    private void run(int run) {
        Model model = new Model();
        FlagAnts x = new FlagAnts();
        String text = list(14);
        while (text.length() > 1980) {
            text = list(14);
        }
        teachBoth(model, x, text);
        for (int i = 0; i < 40; i++) {
            String call = "run " + run + ", call " + i;
            oneCall(call, model, x);
            Check.due(call + " digest", model.digest(), x.digest());
        }
    }

    private void oneCall(String call, Model model, FlagAnts x) {
        int steps = 1 + below(below(3) == 0 ? 300 : 30);
        int column = below(64);
        int row = below(64);
        int ant = model.ants.isEmpty() ? -1 : below(model.ants.size());
        int from = below(row + 1);
        switch (below(12)) {
            case 0:
                int colour = below(6);
                int was = model.stones[row][column];
                model.stones[row][column] = colour;
                Check.due(call + " paint", was, x.paint(column, row, colour));
                break;
            case 1:
                Check.due(call + " wash", model.wash(from, row), x.wash(from, row));
                break;
            case 2:
                faceAnt(call, model, x, ant);
                break;
            case 3:
                haltAnt(call, model, x, ant);
                break;
            case 4:
                placeAnt(call, model, x, ant);
                break;
            case 5:
                int what = 4 + below(6);
                Check.due(call + " foresee", model.foresee(steps, what), x.foresee(steps, what));
                break;
            case 6:
                untilAnt(call, model, x, ant);
                break;
            case 7:
                Check.due(call + " found", model.found(), x.found());
                break;
            case 8:
                int some = 1 + steps / 3;
                Check.due(call + " advise", model.advise(some), x.advise(some));
                break;
            case 9:
                Check.due(call + " mean", model.colourSum() / 4096.0, x.mean());
                whole(call, model, x);
                break;
            default:
                Check.due(call + " pass", model.pass(steps), x.pass(steps));
                break;
        }
    }

    private void faceAnt(String call, Model model, FlagAnts x, int ant) {
        if (ant >= 0) {
            Model.Ant a = model.ants.get(ant);
            int side = below(4);
            Check.due(call + " face", a.side, x.face(ant, side));
            a.side = side;
            a.path.clear();
        }
    }

    private void haltAnt(String call, Model model, FlagAnts x, int ant) {
        if (ant >= 0) {
            Model.Ant a = model.ants.get(ant);
            a.walks = !a.walks;
            Check.due(call + " halt", a.walks ? 1 : 0, x.halt(ant) ? 1 : 0);
        }
    }

    private void placeAnt(String call, Model model, FlagAnts x, int ant) {
        if (ant >= 0) {
            Model.Ant a = model.ants.get(ant);
            Check.due(call + " place", a.row * 64 + a.column, x.place(ant, 3, 60));
            a.column = 3;
            a.row = 60;
            a.path.clear();
        }
    }

    private void untilAnt(String call, Model model, FlagAnts x, int ant) {
        if (ant >= 0) {
            Model.Ant a = model.ants.get(ant);
            int column = a.column + below(4) & 63;
            int row = a.row + below(4) & 63;
            Check.due(call + " until", model.until(ant, column, row), x.until(ant, column, row));
        }
    }

    private static void whole(String call, Model model, FlagAnts x) {
        for (int what = 0; what <= 10; what++) {
            Check.due(call + " count", model.count(what), x.count(what));
        }
        for (int colour = 0; colour < 6; colour++) {
            Check.due(call + " colour", model.having(colour), x.colour(colour));
            for (int rule = 0; rule < model.rules.size(); rule++) {
                Check.due(call + " turn", model.turn(rule, colour), x.turn(rule, colour));
            }
        }
        for (int row = 0; row < 64; row++) {
            Check.due(call + " row", model.darkIn(row), x.row(row));
        }
        for (int ant = 0; ant < model.ants.size(); ant++) {
            for (int what = 0; what <= 8; what++) {
                Check.due(call + " ant", model.ants.get(ant).answer(what), x.ant(ant, what));
            }
        }
    }
}
