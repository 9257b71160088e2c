import java.nio.charset.StandardCharsets;
import java.util.ArrayList;
import java.util.Arrays;
import java.util.HashMap;
import java.util.LinkedHashSet;
import java.util.List;
import java.util.Map;

/** The document in its slowest and plainest words, with nothing kept that can be counted anew, for ModelTest. */
final class Model {
    static final class Token {
        String text;
        int start;
        /** The name of its kind in the grammar: the keyword or symbol itself, "name", "number", "end" or "bad". */
        String kind;

        long number() {
            return Long.parseLong(text);
        }
    }

    static final class Ant {
        String name;
        int rule;
        int column;
        int row;
        int side;
        boolean walks = true;
        int steps;
        List<Integer> path = new ArrayList<>();

        Ant copy() {
            Ant a = new Ant();
            a.name = name;
            a.rule = rule;
            a.column = column;
            a.row = row;
            a.side = side;
            a.walks = walks;
            a.steps = steps;
            a.path = new ArrayList<>(path);
            return a;
        }

        int period() {
            for (int p = 1; p <= 120; p++) {
                if (path.size() >= 3 * p && same(2 * p, p) && (lead(p, 1, 3) != 0 || lead(p, 2, 0) != 0)) {
                    return p;
                }
            }
            return 0;
        }

        private boolean same(int latest, int ahead) {
            for (int i = path.size() - latest; i < path.size(); i++) {
                if (!path.get(i).equals(path.get(i - ahead))) {
                    return false;
                }
            }
            return true;
        }

        private int lead(int latest, int plus, int minus) {
            int sum = 0;
            for (int side : path.subList(path.size() - latest, path.size())) {
                sum += side == plus ? 1 : side == minus ? -1 : 0;
            }
            return sum;
        }

        int answer(int what) {
            int[] answers = {rule, column, row, side, walks ? 1 : 0, steps, period(), lead(period(), 1, 3),
                lead(period(), 2, 0)};
            return answers[what];
        }
    }

    /** An order; its test is read anew from the tokens each time. */
    static final class Order {
        String kind;
        int first;
        int second;
        List<Token> test;
    }

    private static final List<String> KEYWORDS = Arrays.asList(("rule left right straight back ant of at faces north east"
        + " south west paint wash to face halt walk when step dark across down period row meets halted not and or min"
        + " max").split(" "));
    private static final List<String> TURNS = Arrays.asList("left", "right", "straight", "back");
    private static final List<String> SIDES = Arrays.asList("north", "east", "south", "west");
    private static final Map<String, String[]> GRAMMAR = grammar();

    byte[] tape = new byte[0];
    int errorAt = -1;
    int steps;
    int meetings;
    int washed;
    int carried;
    List<String> ruleNames = new ArrayList<>();
    List<List<Integer>> rules = new ArrayList<>();
    List<Ant> ants = new ArrayList<>();
    List<Order> orders = new ArrayList<>();
    int[][] stones = new int[64][64];

    Model copy() {
        Model m = new Model();
        m.steps = steps;
        m.meetings = meetings;
        m.washed = washed;
        m.carried = carried;
        m.ruleNames = ruleNames;
        m.rules = rules;
        for (Ant a : ants) {
            m.ants.add(a.copy());
        }
        m.orders = orders;
        for (int row = 0; row < 64; row++) {
            m.stones[row] = stones[row].clone();
        }
        return m;
    }

    // ---- error 1: Earley's recognizer over the grammar, written out for each depth

    private static Map<String, String[]> grammar() {
        Map<String, String[]> g = new HashMap<>();
        g.put("LIST", new String[] {"", "LINE ; LIST"});
        g.put("LINE", new String[] {"rule name TURN TURN TURNS", "ant name of name at number number faces SIDE",
            "paint number number number", "wash number to number when TEST0",
            "face name SIDE when TEST0", "halt name when TEST0", "walk name when TEST0"});
        g.put("TURNS", new String[] {"", "TURN TURNS"});
        g.put("TURN", new String[] {"left", "right", "straight", "back"});
        g.put("SIDE", new String[] {"north", "east", "south", "west"});
        for (int d = 0; d <= 8; d++) {
            g.put("TEST" + d, new String[] {"BOTH" + d, "BOTH" + d + " or TEST" + d});
            g.put("BOTH" + d, new String[] {"SINGLE" + d, "SINGLE" + d + " and BOTH" + d});
            List<String> single = new ArrayList<>(Arrays.asList("meets name", "halted name"));
            for (String comparison : "< > = <= >=".split(" ")) {
                single.add("SUM" + d + " " + comparison + " SUM" + d);
            }
            g.put("SUM" + d, new String[] {"PRODUCT" + d, "PRODUCT" + d + " + SUM" + d, "PRODUCT" + d + " - SUM" + d});
            g.put("PRODUCT" + d, new String[] {"VALUE" + d, "VALUE" + d + " * PRODUCT" + d,
                "VALUE" + d + " / PRODUCT" + d});
            List<String> value = new ArrayList<>(Arrays.asList("number", "step", "dark", "across name", "down name",
                "period name"));
            if (d < 8) {
                int e = d + 1;
                single.add("not SINGLE" + e);
                single.add("[ TEST" + e + " ]");
                value.add("row ( SUM" + e + " )");
                value.add("- VALUE" + e);
                value.add("( SUM" + e + " )");
                value.add("min ( SUM" + e + " , SUM" + e + " )");
                value.add("max ( SUM" + e + " , SUM" + e + " )");
            } else {
                value.add("row never");
                value.add("min never");
                value.add("max never");
            }
            g.put("SINGLE" + d, single.toArray(new String[0]));
            g.put("VALUE" + d, value.toArray(new String[0]));
        }
        return g;
    }

    private static final class Item {
        final String head;
        final String[] body;
        final int dot;
        final int from;
        final String key;

        Item(String head, String[] body, int dot, int from) {
            this.head = head;
            this.body = body;
            this.dot = dot;
            this.from = from;
            key = head + ":" + String.join(" ", body) + ":" + dot + ":" + from;
        }

        String next() {
            return dot < body.length ? body[dot] : null;
        }

        Item moved() {
            return new Item(head, body, dot + 1, from);
        }

        @Override
        public boolean equals(Object other) {
            return other instanceof Item && ((Item) other).key.equals(key);
        }

        @Override
        public int hashCode() {
            return key.hashCode();
        }
    }

    /** The number of the first token that does not fit, or -1. */
    static int misfit(List<Token> tokens) {
        List<List<Item>> sets = new ArrayList<>();
        LinkedHashSet<Item> begin = new LinkedHashSet<>();
        begin.add(new Item("START", new String[] {"LIST", "end"}, 0, 0));
        sets.add(closed(begin, sets, 0));
        for (int i = 0; i < tokens.size(); i++) {
            LinkedHashSet<Item> next = new LinkedHashSet<>();
            for (Item item : sets.get(i)) {
                if (tokens.get(i).kind.equals(item.next())) {
                    next.add(item.moved());
                }
            }
            if (next.isEmpty() || i >= 400 && !tokens.get(i).kind.equals("end")) {
                return i;
            }
            sets.add(closed(next, sets, i + 1));
        }
        return -1;
    }

    private static List<Item> closed(LinkedHashSet<Item> seed, List<List<Item>> sets, int at) {
        List<Item> all = new ArrayList<>(seed);
        LinkedHashSet<Item> known = new LinkedHashSet<>(seed);
        for (int i = 0; i < all.size(); i++) {
            Item item = all.get(i);
            List<Item> more = new ArrayList<>();
            String next = item.next();
            if (next == null) {
                for (Item waiting : item.from == at ? new ArrayList<>(all) : sets.get(item.from)) {
                    if (item.head.equals(waiting.next())) {
                        more.add(waiting.moved());
                    }
                }
            } else if (GRAMMAR.containsKey(next)) {
                for (String body : GRAMMAR.get(next)) {
                    more.add(new Item(next, body.isEmpty() ? new String[0] : body.split(" "), 0, at));
                    if (body.isEmpty()) {
                        more.add(item.moved());
                    }
                }
            }
            for (Item m : more) {
                if (known.add(m)) {
                    all.add(m);
                }
            }
        }
        return all;
    }

    // ---- the language

    static List<Token> tokens(byte[] tape) {
        String text = new String(tape, StandardCharsets.ISO_8859_1);
        java.util.regex.Matcher m = java.util.regex.Pattern
            .compile("[ \\n]+|([a-z][a-z0-9]*|[0-9]+|<=|>=|[-()\\[\\];,+*/<>=])|(?s:.)").matcher(text);
        List<Token> tokens = new ArrayList<>();
        while (m.find()) {
            if (m.group().charAt(0) == ' ' || m.group().charAt(0) == '\n') {
                continue;
            }
            Token t = new Token();
            t.text = m.group();
            t.start = m.start();
            t.kind = m.group(1) == null ? "bad" : kind(t.text);
            tokens.add(t);
        }
        Token end = new Token();
        end.text = "";
        end.start = text.length();
        end.kind = "end";
        tokens.add(end);
        return tokens;
    }

    private static String kind(String text) {
        char first = text.charAt(0);
        if (first >= '0' && first <= '9') {
            return text.length() > 6 ? "bad" : "number";
        }
        if (first >= 'a' && first <= 'z') {
            return text.length() > 10 ? "bad" : KEYWORDS.contains(text) ? text : "name";
        }
        return text;
    }

    int teach() {
        List<Token> tokens = tokens(tape);
        tape = new byte[0];
        int misfit = misfit(tokens);
        if (misfit >= 0) {
            errorAt = tokens.get(misfit).start;
            return 1;
        }
        Model told = new Model();
        for (int i = 0; i < tokens.size() - 1;) {
            int end = i;
            while (!tokens.get(end).kind.equals(";")) {
                end++;
            }
            int error = told.line(tokens.subList(i, end));
            if (error > 0) {
                errorAt = told.errorAt;
                return error;
            }
            i = end + 1;
        }
        errorAt = -1;
        steps = 0;
        meetings = 0;
        washed = 0;
        carried = 0;
        ruleNames = told.ruleNames;
        rules = told.rules;
        ants = told.ants;
        orders = told.orders;
        stones = told.stones;
        return 0;
    }

    private int fault(Token t, int number) {
        errorAt = t.start;
        return number;
    }

    private int antNumber(String name) {
        for (int i = 0; i < ants.size(); i++) {
            if (ants.get(i).name.equals(name)) {
                return i;
            }
        }
        return -1;
    }

    private int line(List<Token> line) {
        switch (line.get(0).kind) {
            case "rule": return rule(line);
            case "ant": return antLine(line);
            case "paint": return paintLine(line);
            default: return order(line);
        }
    }

    private int rule(List<Token> line) {
        if (ruleNames.contains(line.get(1).text)) {
            return fault(line.get(1), 2);
        }
        if (rules.size() == 5) {
            return fault(line.get(1), 4);
        }
        if (line.size() > 8) {
            return fault(line.get(8), 4);
        }
        ruleNames.add(line.get(1).text);
        List<Integer> turns = new ArrayList<>();
        for (Token t : line.subList(2, line.size())) {
            turns.add(TURNS.indexOf(t.kind));
        }
        rules.add(turns);
        return 0;
    }

    private int antLine(List<Token> line) {
        if (antNumber(line.get(1).text) >= 0) {
            return fault(line.get(1), 2);
        }
        if (ants.size() == 6) {
            return fault(line.get(1), 4);
        }
        if (!ruleNames.contains(line.get(3).text)) {
            return fault(line.get(3), 3);
        }
        for (int i = 5; i <= 6; i++) {
            if (line.get(i).number() > 63) {
                return fault(line.get(i), 5);
            }
        }
        Ant a = new Ant();
        a.name = line.get(1).text;
        a.rule = ruleNames.indexOf(line.get(3).text);
        a.column = (int) line.get(5).number();
        a.row = (int) line.get(6).number();
        a.side = SIDES.indexOf(line.get(8).kind);
        ants.add(a);
        return 0;
    }

    private int paintLine(List<Token> line) {
        for (int i = 1; i <= 3; i++) {
            if (line.get(i).number() > (i == 3 ? 5 : 63)) {
                return fault(line.get(i), 5);
            }
        }
        stones[(int) line.get(2).number()][(int) line.get(1).number()] = (int) line.get(3).number();
        return 0;
    }

    private int order(List<Token> line) {
        if (orders.size() == 20) {
            return fault(line.get(0), 4);
        }
        Order o = new Order();
        o.kind = line.get(0).kind;
        int when = 0;
        while (!line.get(when).kind.equals("when")) {
            when++;
        }
        if (o.kind.equals("wash")) {
            if (line.get(1).number() > 63) {
                return fault(line.get(1), 5);
            }
            if (line.get(3).number() > 63 || line.get(3).number() < line.get(1).number()) {
                return fault(line.get(3), 5);
            }
            o.first = (int) line.get(1).number();
            o.second = (int) line.get(3).number();
        } else {
            o.first = antNumber(line.get(1).text);
            o.second = SIDES.indexOf(line.get(2).kind);
        }
        for (Token t : line.subList(1, line.size())) {
            if (t.kind.equals("name") && antNumber(t.text) < 0) {
                return fault(t, 3);
            }
        }
        o.test = line.subList(when + 1, line.size());
        orders.add(o);
        return 0;
    }

    // ---- tests: each is split at its weakest sign that stands outside of all brackets

    private static int lastOutside(List<Token> t, List<String> signs) {
        int deep = 0;
        for (int i = t.size() - 1; i >= 0; i--) {
            String kind = t.get(i).kind;
            if (kind.equals(")") || kind.equals("]")) {
                deep++;
            } else if (kind.equals("(") || kind.equals("[")) {
                deep--;
            } else if (deep == 0 && signs.contains(kind) && (!kind.equals("-") || isBinary(t, i))) {
                return i;
            }
        }
        return -1;
    }

    private static boolean isBinary(List<Token> t, int i) {
        if (i == 0) {
            return false;
        }
        String before = t.get(i - 1).kind;
        return before.equals(")") || before.equals("name") || before.equals("number") || before.equals("step")
            || before.equals("dark");
    }

    boolean holds(List<Token> t) {
        for (String sign : new String[] {"or", "and"}) {
            int at = lastOutside(t, Arrays.asList(sign));
            if (at >= 0) {
                boolean left = holds(t.subList(0, at));
                boolean right = holds(t.subList(at + 1, t.size()));
                return sign.equals("or") ? left || right : left && right;
            }
        }
        switch (t.get(0).kind) {
            case "not": return !holds(t.subList(1, t.size()));
            case "[": return holds(t.subList(1, t.size() - 1));
            case "halted": return !ants.get(antNumber(t.get(1).text)).walks;
            case "meets": return meets(antNumber(t.get(1).text));
            default: return compares(t);
        }
    }

    private boolean compares(List<Token> t) {
        int at = lastOutside(t, Arrays.asList("<", ">", "=", "<=", ">="));
        int left = reckon(t.subList(0, at));
        int right = reckon(t.subList(at + 1, t.size()));
        switch (t.get(at).kind) {
            case "<": return left < right;
            case ">": return left > right;
            case "=": return left == right;
            case "<=": return left <= right;
            default: return left >= right;
        }
    }

    private boolean meets(int ant) {
        for (int i = 0; i < ants.size(); i++) {
            if (i != ant && ants.get(i).column == ants.get(ant).column && ants.get(i).row == ants.get(ant).row) {
                return true;
            }
        }
        return false;
    }

    int reckon(List<Token> t) {
        for (List<String> signs : Arrays.asList(Arrays.asList("+", "-"), Arrays.asList("*", "/"))) {
            int at = lastOutside(t, signs);
            if (at >= 0) {
                return twoSides(t.get(at).kind, reckon(t.subList(0, at)), reckon(t.subList(at + 1, t.size())));
            }
        }
        switch (t.get(0).kind) {
            case "number": return (int) t.get(0).number();
            case "step": return steps;
            case "dark": return dark();
            case "across": return ants.get(antNumber(t.get(1).text)).column;
            case "down": return ants.get(antNumber(t.get(1).text)).row;
            case "period": return ants.get(antNumber(t.get(1).text)).period();
            case "row": return darkIn(reckon(t.subList(2, t.size() - 1)));
            case "-": return (int) -(long) reckon(t.subList(1, t.size()));
            case "(": return reckon(t.subList(1, t.size() - 1));
            default: return choice(t);
        }
    }

    private int choice(List<Token> t) {
        List<Token> inside = t.subList(2, t.size() - 1);
        int comma = lastOutside(inside, Arrays.asList(","));
        int left = reckon(inside.subList(0, comma));
        int right = reckon(inside.subList(comma + 1, inside.size()));
        return t.get(0).kind.equals("min") == left < right ? left : right;
    }

    private static int twoSides(String sign, long left, long right) {
        switch (sign) {
            case "+": return (int) (left + right);
            case "-": return (int) (left - right);
            case "*": return (int) (left * right);
            default: return right == 0 ? 0 : (int) (left / right);
        }
    }

    // ---- the yard

    int darkIn(int row) {
        int sum = 0;
        if (row >= 0 && row < 64) {
            for (int colour : stones[row]) {
                sum += colour != 0 ? 1 : 0;
            }
        }
        return sum;
    }

    int dark() {
        return 4096 - having(0);
    }

    int having(int colour) {
        int sum = 0;
        for (int[] row : stones) {
            for (int c : row) {
                sum += c == colour ? 1 : 0;
            }
        }
        return sum;
    }

    int colourSum() {
        int sum = 0;
        for (int[] row : stones) {
            for (int c : row) {
                sum += c;
            }
        }
        return sum;
    }

    int wash(int from, int to) {
        int sum = 0;
        for (int row = from; row <= to; row++) {
            sum += darkIn(row);
            Arrays.fill(stones[row], 0);
        }
        washed += sum;
        return sum;
    }

    void step() {
        for (Order o : orders) {
            if (holds(o.test) && carriesOut(o)) {
                carried++;
            }
        }
        for (Ant a : ants) {
            if (a.walks) {
                go(a);
            }
        }
        for (int i = 0; i < ants.size(); i++) {
            for (int j = i + 1; j < ants.size(); j++) {
                if (ants.get(i).column == ants.get(j).column && ants.get(i).row == ants.get(j).row) {
                    meetings++;
                }
            }
        }
        steps++;
    }

    private boolean carriesOut(Order o) {
        if (o.kind.equals("wash")) {
            return wash(o.first, o.second) > 0;
        }
        Ant a = ants.get(o.first);
        if (o.kind.equals("face")) {
            boolean other = a.side != o.second;
            if (other) {
                a.side = o.second;
                a.path.clear();
            }
            return other;
        }
        boolean before = a.walks;
        a.walks = o.kind.equals("walk");
        return before != a.walks;
    }

    private void go(Ant a) {
        List<Integer> turns = rules.get(a.rule);
        int k = stones[a.row][a.column] % turns.size();
        int by = new int[] {-1, 1, 0, 2}[turns.get(k)];
        a.side = Math.floorMod(a.side + by, 4);
        stones[a.row][a.column] = (k + 1) % turns.size();
        if (a.side == 0) {
            a.row = a.row == 0 ? 63 : a.row - 1;
        } else if (a.side == 1) {
            a.column = a.column == 63 ? 0 : a.column + 1;
        } else if (a.side == 2) {
            a.row = a.row == 63 ? 0 : a.row + 1;
        } else {
            a.column = a.column == 0 ? 63 : a.column - 1;
        }
        a.path.add(a.side);
        a.steps++;
    }

    int count(int what) {
        int walking = 0;
        for (Ant a : ants) {
            walking += a.walks ? 1 : 0;
        }
        int[] counts = {steps, rules.size(), ants.size(), orders.size(), dark(), colourSum(), walking, meetings, washed,
            carried, tape.length};
        return counts[what];
    }

    int turn(int rule, int colour) {
        return rules.get(rule).get(colour % rules.get(rule).size());
    }

    // ---- steps and what would be

    int pass(int n) {
        int before = dark();
        for (int i = 0; i < n; i++) {
            step();
        }
        return dark() - before;
    }

    int foresee(int n, int what) {
        Model m = copy();
        m.pass(n);
        return m.count(what);
    }

    int until(int ant, int column, int row) {
        Model m = copy();
        for (int i = 0; i <= 2000; i++) {
            if (m.ants.get(ant).column == column && m.ants.get(ant).row == row) {
                return i;
            }
            m.step();
        }
        return -1;
    }

    int found() {
        Model m = copy();
        for (int i = 0; i <= 2000; i++) {
            for (Ant a : m.ants) {
                if (a.period() > 0) {
                    return i;
                }
            }
            m.step();
        }
        return -1;
    }

    int advise(int n) {
        int least = foresee(n, 4);
        int best = -1;
        for (int from = 0; from < 64; from += 8) {
            Model m = copy();
            m.wash(from, from + 7);
            m.pass(n);
            if (m.dark() < least) {
                least = m.dark();
                best = from;
            }
        }
        return best;
    }

    long digest() {
        long d = 911;
        for (int what = 0; what <= 10; what++) {
            d = d * 31 + count(what);
        }
        for (int rule = 0; rule < rules.size(); rule++) {
            for (int colour = 0; colour <= 5; colour++) {
                d = d * 31 + turn(rule, colour);
            }
        }
        for (Ant a : ants) {
            for (int what = 0; what <= 8; what++) {
                d = d * 31 + a.answer(what);
            }
        }
        for (int[] row : stones) {
            for (int colour : row) {
                d = d * 31 + colour;
            }
        }
        return d;
    }
}
