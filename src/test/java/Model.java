import java.io.ByteArrayOutputStream;
import java.util.ArrayList;
import java.util.Arrays;
import java.util.List;
import java.util.Map;
import java.util.TreeMap;
import java.util.TreeSet;

/** The document told a second time, without regard to speed: nothing is kept that can be asked. */
final class Model {
    private static final int NONE = -1;

    private record Fact(boolean isCloud, int who, int evening) { }

    private record Land(int shift, int evening) { }

    private record Token(String text, int place) { }

    private record Rule(String kind, Node condition) { }

    private record Month(int begun, int reason, int decided) { }

    private interface Node {
        int value(Map<String, Integer> vars);
    }

    private static final class Fault extends Exception {
        private static final long serialVersionUID = 1L;
        final int number;
        final int place;

        Fault(int number, int place) {
            this.number = number;
            this.place = place;
        }
    }

    private byte[] tape = new byte[0];
    private int place = NONE;
    private final List<Integer> moons = new ArrayList<>();
    private final List<Land> lands = new ArrayList<>();
    private final Map<Integer, int[]> tables = new TreeMap<>();
    private final Map<String, Integer> days = new TreeMap<>();
    private final List<Integer> homes = new ArrayList<>();
    private final List<Fact> facts = new ArrayList<>();
    private final Map<Integer, List<Rule>> texts = new TreeMap<>();

    int feed(int a, int b, int c, int d, int e) {
        if (tape.length > 1980) {
            return NONE;
        }
        ByteArrayOutputStream out = new ByteArrayOutputStream();
        out.writeBytes(tape);
        for (int word : new int[] {a, b, c, d, e}) {
            out.write(word >>> 24);
            out.write(word >>> 16);
            out.write(word >>> 8);
            out.write(word);
        }
        tape = out.toByteArray();
        return tape.length;
    }

    int back(int n) {
        if (n < 0 || n > tape.length) {
            return NONE;
        }
        tape = Arrays.copyOf(tape, tape.length - n);
        return tape.length;
    }

    int read(int land) {
        if (!isLand(land)) {
            return NONE;
        }
        byte[] bytes = tape;
        tape = new byte[0];
        try {
            texts.put(land, new Parser(bytes).text());
            place = NONE;
            return 0;
        } catch (Fault fault) {
            place = fault.place;
            return fault.number;
        }
    }

    int place() {
        return place;
    }

    int moon(int hour) {
        if (moons.size() == 14 || hour < 0 || hour > 9999
                || !moons.isEmpty() && hour <= moons.get(moons.size() - 1)) {
            return NONE;
        }
        moons.add(hour);
        return moons.size() - 1;
    }

    int land(int shift, int evening) {
        if (lands.size() == 6 || Math.abs((long) shift) > 12 || !isEvening(evening)) {
            return NONE;
        }
        lands.add(new Land(shift, evening));
        return lands.size() - 1;
    }

    boolean table(int land, int n) {
        if (!isLand(land) || n != NONE && (n < 1 || n > 60)) {
            return false;
        }
        tables.remove(land);
        if (n != NONE) {
            tables.put(land, new int[n]);
        }
        return true;
    }

    boolean cell(int land, int i, int v) {
        int[] row = tables.get(land);
        if (row == null || i < 0 || i >= row.length || v < 0 || v > 2) {
            return false;
        }
        row[i] = v;
        return true;
    }

    boolean travel(int from, int to, int n) {
        if (!isLand(from) || !isLand(to) || from == to || n < -1 || n > 60) {
            return false;
        }
        days.remove(from + ">" + to);
        if (n != NONE) {
            days.put(from + ">" + to, n);
        }
        return true;
    }

    int witness(int land) {
        if (homes.size() == 12 || !isLand(land)) {
            return NONE;
        }
        homes.add(land);
        return homes.size() - 1;
    }

    int report(int witness, int evening) {
        if (facts.size() == 300 || !isWitness(witness) || !isEvening(evening)) {
            return NONE;
        }
        facts.add(new Fact(false, witness, evening));
        return facts.size() - 1;
    }

    int cloud(int land, int evening) {
        if (facts.size() == 300 || !isLand(land) || !isEvening(evening)) {
            return NONE;
        }
        facts.add(new Fact(true, land, evening));
        return facts.size() - 1;
    }

    int age(int land, int evening) {
        if (!isLand(land) || !isEvening(evening)) {
            return NONE;
        }
        int now = 24 * evening + 18 + lands.get(land).shift();
        int age = NONE;
        for (int hour : moons) {
            if (hour <= now) {
                age = now - hour;
            }
        }
        return age;
    }

    int light(int land, int evening) {
        if (!isLand(land) || !isEvening(evening)) {
            return NONE;
        }
        int age = age(land, evening);
        int[] row = tables.get(land);
        if (age < 0) {
            return 0;
        }
        return row == null ? 1 : age < row.length ? row[age] : row[row.length - 1];
    }

    int verdict(int fact, int n) {
        if (!isKnown(n) || fact < 0 || fact >= n || facts.get(fact).isCloud()) {
            return NONE;
        }
        Fact report = facts.get(fact);
        int home = homes.get(report.who());
        int light = light(home, report.evening());
        if (light == 0) {
            return 0;
        }
        return light == 2 && !isCloudy(home, report.evening(), n) ? 2 : 1;
    }

    int worth(int witness, int evening, int n) {
        if (!isKnown(n) || !isWitness(witness) || !isEvening(evening)) {
            return NONE;
        }
        int worth = 2;
        for (int f = 0; f < n; f++) {
            Fact fact = facts.get(f);
            if (!fact.isCloud() && fact.who() == witness && fact.evening() < evening) {
                worth += new int[] {-2, 0, 1}[verdict(f, n)];
            }
        }
        return Math.max(0, worth);
    }

    int begins(int land, int month, int n) {
        Month found = month(land, month, n, 0);
        return found == null ? NONE : found.begun();
    }

    int by(int land, int month, int n) {
        Month found = month(land, month, n, 1);
        return found == null ? NONE : found.reason();
    }

    int heard(int land, int month, int i, int n) {
        Month found = month(land, month, n, 1);
        if (found == null) {
            return NONE;
        }
        List<Integer> heard = heardReports(land, found.decided(), found.begun(), n);
        return i < 0 || i >= heard.size() ? NONE : heard.get(i);
    }

    int date(int land, int evening, int n) {
        if (!isLand(land) || !isEvening(evening) || !isKnown(n)) {
            return NONE;
        }
        return dateIn(calendars(n).get(land), evening);
    }

    int turn(int from, int month, int day, int to, int n) {
        Month found = month(from, month, n, 0);
        if (found == null || !isLand(to) || day < 1 || day > 30) {
            return NONE;
        }
        int evening = found.begun() + day - 1;
        boolean isThat = isEvening(evening) && date(from, evening, n) == 100 * month + day;
        return isThat ? date(to, evening, n) : NONE;
    }

    int unlike(int one, int other, int a, int b, int n) {
        if (!isLand(one) || !isLand(other) || !isEvening(a) || !isEvening(b) || a > b
                || !isKnown(n)) {
            return NONE;
        }
        List<List<Month>> calendars = calendars(n);
        int unlike = 0;
        for (int d = a; d <= b; d++) {
            if (dateIn(calendars.get(one), d) != dateIn(calendars.get(other), d)) {
                unlike++;
            }
        }
        return unlike;
    }

    int changed(int land, int n, int m) {
        if (!isLand(land) || !isKnown(n) || !isKnown(m)) {
            return NONE;
        }
        for (int month = 1; month <= 14; month++) {
            if (begins(land, month, n) != begins(land, month, m)) {
                return month;
            }
        }
        return NONE;
    }

    int count(int what) {
        int rules = 0;
        for (List<Rule> text : texts.values()) {
            rules += text.size();
        }
        int[] counts = {lands.size(), moons.size(), homes.size(), facts.size(), rules, tape.length};
        return what < 0 || what >= counts.length ? NONE : counts[what];
    }

    private boolean isLand(int land) {
        return land >= 0 && land < lands.size();
    }

    private boolean isWitness(int witness) {
        return witness >= 0 && witness < homes.size();
    }

    private boolean isKnown(int n) {
        return n >= 0 && n <= facts.size();
    }

    private static boolean isEvening(int evening) {
        return evening >= 0 && evening <= 399;
    }

    private boolean isCloudy(int land, int evening, int n) {
        return facts.subList(0, n).contains(new Fact(true, land, evening));
    }

    private boolean isNewsThere(int from, int to, int sent, int by) {
        if (from == to) {
            return sent <= by;
        }
        Integer travel = days.get(from + ">" + to);
        return travel != null && sent + travel <= by;
    }

    private List<Integer> heardReports(int land, int d, int e, int n) {
        List<Integer> heard = new ArrayList<>();
        for (int f = 0; f < n; f++) {
            Fact fact = facts.get(f);
            if (!fact.isCloud() && fact.evening() == e && verdict(f, n) != 0
                    && isNewsThere(homes.get(fact.who()), land, e, d)) {
                heard.add(f);
            }
        }
        return heard;
    }

    private Month month(int land, int month, int n, int least) {
        if (!isLand(land) || month < least || month > 14 || !isKnown(n)) {
            return null;
        }
        List<Month> calendar = calendars(n).get(land);
        return month < calendar.size() ? calendar.get(month) : null;
    }

    private static int dateIn(List<Month> calendar, int evening) {
        int date = NONE;
        for (int m = 0; m < calendar.size(); m++) {
            if (calendar.get(m).begun() <= evening) {
                date = 100 * m + evening - calendar.get(m).begun() + 1;
            }
        }
        return date;
    }

    private List<List<Month>> calendars(int n) {
        List<List<Month>> all = new ArrayList<>();
        for (Land land : lands) {
            all.add(new ArrayList<>(List.of(new Month(land.evening(), NONE, NONE))));
        }
        for (int d = 0; d <= 399; d++) {
            for (int land = 0; land < lands.size(); land++) {
                passEvening(all, land, d, n);
            }
        }
        return all;
    }

    private void passEvening(List<List<Month>> all, int land, int d, int n) {
        List<Month> calendar = all.get(land);
        int number = calendar.size() - 1;
        Month month = calendar.get(number);
        int gone = d - month.begun();
        if (gone == 30) {
            calendar.add(new Month(d, -2, d));
        }
        if (gone == 29) {
            Map<String, Integer> vars = vars(all, land, d, d, n);
            vars.put("days", gone);
            if (first(land, "not", vars) == NONE && first(land, "begin", vars) != NONE) {
                calendar.add(new Month(d, first(land, "begin", vars), d));
            }
        }
        if (gone >= 1 && gone <= 10 && month.reason() == -2) {
            Map<String, Integer> vars = vars(all, land, d, month.begun() - 1, n);
            vars.put("days", gone);
            int rule = first(land, "back", vars);
            if (rule != NONE) {
                calendar.set(number, new Month(month.begun() - 1, rule, d));
            }
        }
    }

    private int first(int land, String kind, Map<String, Integer> vars) {
        List<Rule> text = texts.getOrDefault(land, List.of());
        for (int r = 0; r < text.size(); r++) {
            if (text.get(r).kind().equals(kind) && text.get(r).condition().value(vars) != 0) {
                return r;
            }
        }
        return NONE;
    }

    private Map<String, Integer> vars(List<List<Month>> all, int land, int d, int e, int n) {
        Map<String, Integer> vars = new TreeMap<>();
        TreeSet<Integer> seers = new TreeSet<>();
        for (int f : heardReports(land, d, e, n)) {
            seers.add(facts.get(f).who());
        }
        int sum = 0;
        int best = 0;
        for (int w : seers) {
            sum += worth(w, d, n);
            best = Math.max(best, worth(w, d, n));
        }
        int month = d == e ? all.get(land).size() : all.get(land).size() - 1;
        int others = 0;
        for (int o = 0; o < all.size(); o++) {
            if (o != land && month < all.get(o).size()) {
                int begun = all.get(o).get(month).begun();
                others += begun <= e && isNewsThere(o, land, begun, d) ? 1 : 0;
            }
        }
        vars.put("seen", seers.size());
        vars.put("worth", sum);
        vars.put("best", best);
        vars.put("light", light(land, e));
        vars.put("cloud", isCloudy(land, e, n) ? 1 : 0);
        vars.put("month", month);
        vars.put("others", others);
        return vars;
    }

    /** Going down through the grammar as it is written. */
    private static final class Parser {
        private static final List<String> VARS =
                List.of("days", "seen", "worth", "best", "light", "cloud", "others", "month");
        private final List<Token> tokens = new ArrayList<>();
        private int at = 0;
        private int open = 0;

        Parser(byte[] bytes) {
            int p = 0;
            while (p < bytes.length) {
                int length = lengthAt(bytes, p);
                if (length > 0) {
                    tokens.add(new Token(new String(bytes, p, length,
                            java.nio.charset.StandardCharsets.ISO_8859_1), p));
                }
                p += Math.max(length, 1);
            }
            tokens.add(new Token("", bytes.length));
        }

        /** 0: a blank. What is no TOKEN comes as a text that the grammar has nowhere. */
        private static int lengthAt(byte[] bytes, int p) {
            if ("\t\n\r ".indexOf(bytes[p]) >= 0) {
                return 0;
            }
            int end = p;
            while (end < bytes.length && bytes[end] >= 'a' && bytes[end] <= 'z') {
                end++;
            }
            if (end > p) {
                return end - p;
            }
            while (end < bytes.length && bytes[end] >= '0' && bytes[end] <= '9') {
                end++;
            }
            if (end > p) {
                return end - p;
            }
            boolean pair = "=!<".indexOf(bytes[p]) >= 0 && p + 1 < bytes.length
                    && bytes[p + 1] == '=';
            return pair ? 2 : 1;
        }

        private String now() {
            return tokens.get(at).text();
        }

        private boolean isNow(String... ones) {
            return Arrays.asList(ones).contains(now());
        }

        private Fault fault(int number) {
            return new Fault(number, tokens.get(at).place());
        }

        private String take() throws Fault {
            if (at >= 400) {
                throw fault(2);
            }
            at++;
            return tokens.get(at - 1).text();
        }

        private void take(String one) throws Fault {
            if (!isNow(one)) {
                throw fault(1);
            }
            take();
        }

        List<Rule> text() throws Fault {
            List<Rule> rules = new ArrayList<>();
            while (!isNow("")) {
                if (!isNow("begin", "not", "back")) {
                    throw fault(1);
                }
                if (rules.size() == 12) {
                    throw fault(2);
                }
                String kind = take();
                take("if");
                Node condition = condition();
                take(";");
                rules.add(new Rule(kind, condition));
            }
            return rules;
        }

        private Node condition() throws Fault {
            Node left = all();
            while (isNow("or")) {
                take();
                Node one = left;
                Node other = all();
                left = vars -> one.value(vars) != 0 || other.value(vars) != 0 ? 1 : 0;
            }
            return left;
        }

        private Node all() throws Fault {
            Node left = relation();
            while (isNow("and")) {
                take();
                Node one = left;
                Node other = relation();
                left = vars -> one.value(vars) != 0 && other.value(vars) != 0 ? 1 : 0;
            }
            return left;
        }

        private Node relation() throws Fault {
            Node one = sum();
            if (!isNow("==", "!=", "<", "<=")) {
                throw fault(1);
            }
            String sign = take();
            Node other = sum();
            return vars -> {
                int order = Integer.compare(one.value(vars), other.value(vars));
                return switch (sign) {
                    case "==" -> order == 0;
                    case "!=" -> order != 0;
                    case "<" -> order < 0;
                    default -> order <= 0;
                } ? 1 : 0;
            };
        }

        private Node sum() throws Fault {
            Node left = part();
            while (isNow("+", "-")) {
                int factor = take().equals("+") ? 1 : -1;
                Node one = left;
                Node other = part();
                left = vars -> one.value(vars) + factor * other.value(vars);
            }
            return left;
        }

        private Node part() throws Fault {
            Node left = unit();
            while (isNow("*")) {
                take();
                Node one = left;
                Node other = unit();
                left = vars -> one.value(vars) * other.value(vars);
            }
            return left;
        }

        private Node unit() throws Fault {
            if (now().matches("[0-9]{1,4}")) {
                int number = Integer.parseInt(take());
                return vars -> number;
            }
            if (VARS.contains(now())) {
                String name = take();
                return vars -> vars.get(name);
            }
            if (!isNow("(")) {
                throw fault(1);
            }
            if (open == 6) {
                throw fault(2);
            }
            take();
            open++;
            Node inside = sum();
            take(")");
            open--;
            return inside;
        }
    }
}
