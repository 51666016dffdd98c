import java.util.Random;

/** Random runs of calls, the same ones each time, answered alike by the class and by the model. */
public final class ModelTest {
    private static final int RUNS = 300;
    private static final int CALLS = 512;
    private static final String[] VARS =
            {"days", "seen", "worth", "best", "light", "cloud", "others", "month"};
    private static final String[] JUNK =
            {"begin", "if", "or", "(", ")", ";", "==", "=", "<", "!", "12345", "oops", "@", "+", "*",
                "-", " ", "\n", "\u00e9", "\u0000", "abcdefghi", "abcdefgh", "and", "not", "7"};

    private final Checks checks = new Checks();
    private Random random;
    private CrescentCourt court;
    private Model model;
    private int run;
    private int calls;
    private int facts;

    public static void main(String[] args) {
        ModelTest test = new ModelTest();
        for (int run = 0; run < RUNS && test.checks.wrongOnes() < 20; run++) {
            test.goThrough(run);
        }
        test.checks.end();
    }

    private void goThrough(int number) {
        run = number;
        random = new Random(number);
        court = new CrescentCourt();
        model = new Model();
        calls = 0;
        facts = 0;
        tellMuch();
        while (calls < CALLS) {
            makeCall();
        }
    }

    /** Most runs start with a world in which something happens. */
    private void tellMuch() {
        int hour = random.nextInt(random.nextInt(4) == 0 ? 700 : 40);
        for (int i = random.nextInt(8) == 0 ? 0 : 10 + random.nextInt(6); i > 0; i--) {
            moon(hour);
            hour += 690 + random.nextInt(40);
        }
        int lands = run % 20 == 0 ? 0 : 1 + random.nextInt(6);
        for (int land = 0; land < lands; land++) {
            land(random.nextInt(25) - 12, random.nextInt(random.nextInt(4) == 0 ? 400 : 40));
            text(land, someText());
            if (random.nextInt(3) > 0) {
                brightTable(land, 1 + random.nextInt(40));
            }
        }
        for (int i = 0; i < 6 * lands; i++) {
            travel(someLand(), someLand(), random.nextInt(14) - 1);
        }
        for (int i = 1 + random.nextInt(12); i > 0; i--) {
            witness(someLand());
        }
        int many = random.nextInt(8) == 0 ? 310 : random.nextInt(80);
        for (int i = 0; i < many; i++) {
            someFact();
        }
    }

    /** Dark up to some AGE, then maybe, and surely behind the row, as a sky would have it. */
    private void brightTable(int land, int n) {
        table(land, n);
        for (int i = Math.max(0, n - 4); i < n - 1; i++) {
            cell(land, i, 1);
        }
        cell(land, n - 1, random.nextInt(5) == 0 ? 1 : 2);
    }

    private void someTable() {
        if (random.nextInt(4) == 0) {
            table(someLand(), random.nextInt(66) - 3);
        } else {
            brightTable(someLand(), 1 + random.nextInt(40));
        }
    }

    private void makeCall() {
        switch (random.nextInt(32)) {
            case 0 -> moon(random.nextInt(12000) - 1000);
            case 1 -> land(random.nextInt(30) - 15, wild(400));
            case 2 -> someTable();
            case 3 -> cell(someLand(), wild(60), random.nextInt(5) - 1);
            case 4, 5 -> travel(someLand(), someLand(), random.nextInt(66) - 3);
            case 6 -> witness(someLand());
            case 7, 8, 9 -> someFact();
            case 10 -> text(someLand(), someText());
            case 11 -> due("place()", court.place(), model.place());
            case 12 -> junkOnTape();
            case 13, 14 -> askSky(someLand(), wild(400));
            case 15, 16 -> askWitness(wild(facts + 1), wild(12), wild(400));
            case 17, 18, 19, 20, 21 -> askMonth(someLand(), wild(random.nextBoolean() ? 7 : 15));
            case 22, 23 -> askDate(someLand(), wild(400));
            case 24, 25 -> askTurn(someLand(), wild(14), 1 + wild(30));
            case 26, 27 -> askUnlike(someLand(), someLand(), wild(400), wild(400));
            case 28, 29 -> askChanged(someLand());
            default -> askCount(random.nextInt(9) - 1);
        }
    }

    private void due(String call, int got, int want) {
        calls++;
        checks.due("run " + run + ", call " + calls + ": " + call, got, want);
    }

    private void due(String call, boolean got, boolean want) {
        calls++;
        checks.due("run " + run + ", call " + calls + ": " + call, got, want);
    }

    /** Mostly 0 .. bound - 1, at times a bit outside, or far. */
    private int wild(int bound) {
        int kind = random.nextInt(40);
        if (kind == 0) {
            return random.nextInt();
        }
        if (kind < 4) {
            return new int[] {-1, bound, bound + 1, -2}[random.nextInt(4)];
        }
        return random.nextInt(Math.max(bound, 1));
    }

    private int someLand() {
        int lands = Math.max(model.count(0), 1);
        return random.nextInt(20) == 0 ? wild(7) : random.nextInt(lands);
    }

    private int someKnown() {
        return random.nextBoolean() ? facts : wild(facts + 1);
    }

    /** Most EVENINGS near those on which a MONTH begins. */
    private int someEvening() {
        if (random.nextInt(6) == 0) {
            return wild(400);
        }
        calls++;
        int begins = court.begins(someLand(), 1 + random.nextInt(5), facts);
        return begins - random.nextInt(2) + random.nextInt(8) / 7;
    }

    private String someText() {
        StringBuilder text = new StringBuilder();
        for (int i = random.nextInt(random.nextInt(20) == 0 ? 15 : 4); i >= 0; i--) {
            text.append(new String[] {"begin", "not", "back"}[random.nextInt(3)]);
            text.append(" if ").append(someCondition()).append(';').append(blank());
        }
        if (random.nextInt(6) == 0) {
            int at = random.nextInt(text.length());
            String junk = JUNK[random.nextInt(JUNK.length)];
            if (random.nextBoolean()) {
                text.insert(at, junk);
            } else {
                text.delete(at, at + 1 + random.nextInt(6));
            }
        }
        if (random.nextInt(12) == 0) {
            text.append("not if 1").append("*1".repeat(random.nextInt(210))).append("<0;");
        }
        return text.substring(0, Math.min(text.length(), 1200));
    }

    private String someCondition() {
        StringBuilder condition = new StringBuilder(someRelation());
        for (int i = random.nextInt(3); i > 0; i--) {
            condition.append(random.nextBoolean() ? " or " : " and ").append(someRelation());
        }
        return condition.toString();
    }

    private String someRelation() {
        String sign = new String[] {"==", "!=", "<", "<="}[random.nextInt(4)];
        if (random.nextInt(3) > 0) {
            return VARS[1 + random.nextInt(7)] + blank() + sign + blank() + random.nextInt(4);
        }
        return someSum(0) + blank() + sign + blank() + someSum(0);
    }

    private String someSum(int depth) {
        StringBuilder sum = new StringBuilder(someUnit(depth));
        for (int i = random.nextInt(3); i > 0; i--) {
            sum.append("+-*".charAt(random.nextInt(3))).append(blank()).append(someUnit(depth));
        }
        return sum.toString();
    }

    private String someUnit(int depth) {
        int kind = random.nextInt(depth < 8 ? 5 : 4);
        if (kind == 4) {
            return "(" + someSum(depth + 1) + ")";
        }
        return kind > 1 ? VARS[random.nextInt(8)]
                : String.valueOf(random.nextInt(random.nextInt(5) == 0 ? 10000 : 5));
    }

    private String blank() {
        return new String[] {"", "", " ", "\n", "\t", "\r"}[random.nextInt(6)];
    }

    private void text(int land, String text) {
        due("feedText(" + text + ")", Checks.feedText(court, text), feedModel(text));
        due("read(" + land + ") of " + text, court.read(land), model.read(land));
        due("place() of " + text, court.place(), model.place());
    }

    private int feedModel(String text) {
        byte[] bytes = Checks.bytesOf(text);
        int length = (bytes.length + 19) / 20 * 20;
        int[] words = new int[length / 4];
        for (int i = 0; i < bytes.length; i++) {
            words[i / 4] |= (bytes[i] & 255) << 24 - i % 4 * 8;
        }
        for (int i = 0; i < words.length; i += 5) {
            model.feed(words[i], words[i + 1], words[i + 2], words[i + 3], words[i + 4]);
        }
        return model.back(length - bytes.length);
    }

    private void junkOnTape() {
        int a = random.nextInt();
        due("feed", court.feed(a, 0, -1, a, 5), model.feed(a, 0, -1, a, 5));
        int n = wild(45);
        due("back(" + n + ")", court.back(n), model.back(n));
        if (random.nextInt(3) > 0) {
            int left = model.count(5);
            due("back(" + left + ")", court.back(left), model.back(left));
        }
    }

    private void moon(int hour) {
        due("moon(" + hour + ")", court.moon(hour), model.moon(hour));
    }

    private void land(int shift, int evening) {
        due("land(" + shift + ", " + evening + ")", court.land(shift, evening),
                model.land(shift, evening));
    }

    private void table(int land, int n) {
        due("table(" + land + ", " + n + ")", court.table(land, n), model.table(land, n));
    }

    private void cell(int land, int i, int v) {
        due("cell(" + land + ", " + i + ", " + v + ")", court.cell(land, i, v),
                model.cell(land, i, v));
    }

    private void travel(int from, int to, int days) {
        due("travel(" + from + ", " + to + ", " + days + ")", court.travel(from, to, days),
                model.travel(from, to, days));
    }

    private void witness(int land) {
        due("witness(" + land + ")", court.witness(land), model.witness(land));
    }

    private void someFact() {
        int evening = someEvening();
        if (random.nextInt(4) == 0) {
            int land = someLand();
            due("cloud(" + land + ", " + evening + ")", court.cloud(land, evening),
                    model.cloud(land, evening));
        } else {
            int witness = wild(Math.max(model.count(2), 1));
            due("report(" + witness + ", " + evening + ")", court.report(witness, evening),
                    model.report(witness, evening));
        }
        facts = model.count(3);
    }

    private void askSky(int land, int evening) {
        String asked = "(" + land + ", " + evening + ")";
        due("age" + asked, court.age(land, evening), model.age(land, evening));
        due("light" + asked, court.light(land, evening), model.light(land, evening));
    }

    private void askWitness(int fact, int witness, int evening) {
        int n = someKnown();
        due("verdict(" + fact + ", " + n + ")", court.verdict(fact, n), model.verdict(fact, n));
        due("worth(" + witness + ", " + evening + ", " + n + ")",
                court.worth(witness, evening, n), model.worth(witness, evening, n));
    }

    private void askMonth(int land, int month) {
        int n = someKnown();
        int i = random.nextInt(3) > 0 ? random.nextInt(2) : random.nextInt(6) - 1;
        String asked = "(" + land + ", " + month + ", " + n + ")";
        due("begins" + asked, court.begins(land, month, n), model.begins(land, month, n));
        due("by" + asked, court.by(land, month, n), model.by(land, month, n));
        due("heard" + asked + " " + i, court.heard(land, month, i, n),
                model.heard(land, month, i, n));
    }

    private void askDate(int land, int evening) {
        int n = someKnown();
        due("date(" + land + ", " + evening + ", " + n + ")", court.date(land, evening, n),
                model.date(land, evening, n));
    }

    private void askTurn(int from, int month, int day) {
        int to = someLand();
        int n = someKnown();
        due("turn(" + from + ", " + month + ", " + day + ", " + to + ", " + n + ")",
                court.turn(from, month, day, to, n), model.turn(from, month, day, to, n));
    }

    private void askUnlike(int one, int other, int a, int b) {
        int n = someKnown();
        due("unlike(" + one + ", " + other + ", " + a + ", " + b + ", " + n + ")",
                court.unlike(one, other, a, b, n), model.unlike(one, other, a, b, n));
    }

    private void askChanged(int land) {
        int n = someKnown();
        int m = someKnown();
        due("changed(" + land + ", " + n + ", " + m + ")", court.changed(land, n, m),
                model.changed(land, n, m));
    }

    private void askCount(int what) {
        due("count(" + what + ")", court.count(what), model.count(what));
    }
}
