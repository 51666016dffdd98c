import java.util.function.ToIntFunction;

/** Promises 1 to 25: for each sentence that names an edge or a refused call a test of its own. */
public final class CallEdgesTest {
    private static final int NONE = CrescentCourt.NONE;
    private static final int BY_30_DAYS = -2;
    private static final int MAX = Integer.MAX_VALUE;
    private static final int MIN = Integer.MIN_VALUE;
    private static final int[] NO_LANDS = {-1, 3, 6, MIN, MAX};
    private static final int[] NO_EVENINGS = {-1, 400, MIN, MAX};
    private static final Checks checks = new Checks();

    public static void main(String[] args) {
        p01NothingIsTold();
        p01ObjectsAreApart();
        p02HighestByteFirst();
        p02HowManyBytes();
        p02NoMoreThan2000();
        p03TheLastBytesGo();
        p03NotSoMany();
        p03Below0();
        p04TheTapeIsEmptyThen();
        p04NoSuchLand();
        p05TheLatestFault();
        p05NotOfARefusedRead();
        p05NoneWithout();
        p06Fourteen();
        p06NoSuchHour();
        p06NotLater();
        p07Six();
        p07NoSuchShiftOrEvening();
        p08ARowOfZeros();
        p08Missing();
        p08FalseForOthers();
        p09NoneSuch();
        p09AnotherV();
        p10SoManyDaysOrNever();
        p10NoSuchOnes();
        p10OneAndTheSame();
        p11Twelve();
        p11NoSuchLand();
        p12ThreeHundred();
        p12NoSuchWitnessOrEvening();
        p13ThreeHundred();
        p13NoSuchLandOrEvening();
        p14NotKnown();
        p14NoSuchOnes();
        p15NoSuchOnes();
        p16Verdicts();
        p16NoSuchOneAmongTheFirstN();
        p16ACloud();
        p17NoSuchOnes();
        p18NotByEvening399();
        p18NoSuchOnes();
        p19ByARule();
        p19By30DaysAlone();
        p19DidNotBegin();
        p19NoSuchOnes();
        p20WhenItBegan();
        p20WhenItWasSetBack();
        p20NotSoMany();
        p20DidNotBegin();
        p20NoSuchOnes();
        p21Days1To30();
        p21AheadOfMonth0();
        p21ByBeginsOfAllMonths();
        p21NoSuchOnes();
        p22ADayOfAMonth();
        p22NoSuchDay();
        p22AheadOfTheOthersMonth0();
        p22NoSuchOnes();
        p23FromAToB();
        p23OneAheadOfItsMonth0();
        p23AAboveB();
        p23NoSuchOnes();
        p24TheFirstMonth();
        p24OnNoneInOneOfBoth();
        p24None();
        p24NoSuchOnes();
        p25Counts();
        p25NoneForOthers();
        checks.end();
    }

    private static void due(String call, int got, int want) {
        checks.due(call, got, want);
    }

    private static void due(String call, boolean got, boolean want) {
        checks.due(call, got, want);
    }

    /** The call answers NONE, and nothing of what can be seen is another one behind it. */
    private static void refused(CrescentCourt x, String call, ToIntFunction<CrescentCourt> made) {
        String before = Worlds.seenOf(x);
        due(call, made.applyAsInt(x), NONE);
        due("nothing changed by " + call, before.equals(Worlds.seenOf(x)), true);
    }

    private static void refused(String call, ToIntFunction<CrescentCourt> made) {
        refused(Worlds.busy(), call, made);
    }

    /** As refused(), of a call that answers false: the boolean comes as NONE for false. */
    private static int orNone(boolean answer) {
        return answer ? 1 : NONE;
    }

    private static String told(String name, int... arguments) {
        StringBuilder call = new StringBuilder(name).append('(');
        for (int i = 0; i < arguments.length; i++) {
            call.append(i == 0 ? "" : ", ").append(arguments[i]);
        }
        return call.append(')').toString();
    }

    private static void p01NothingIsTold() {
        checks.sentence("No LANDS, no MOONS, nothing is told.");
        CrescentCourt x = new CrescentCourt();
        for (int what = 0; what <= 5; what++) {
            due(told("count", what), x.count(what), 0);
        }
        due("place()", x.place(), NONE);
        due("back(0)", x.back(0), 0);
        due("back(1)", x.back(1), NONE);
        due("read(0)", x.read(0), NONE);
        due("age(0, 0)", x.age(0, 0), NONE);
        due("light(0, 0)", x.light(0, 0), NONE);
        due("verdict(0, 0)", x.verdict(0, 0), NONE);
        due("worth(0, 0, 0)", x.worth(0, 0, 0), NONE);
        due("begins(0, 0, 0)", x.begins(0, 0, 0), NONE);
        due("by(0, 1, 0)", x.by(0, 1, 0), NONE);
        due("heard(0, 1, 0, 0)", x.heard(0, 1, 0, 0), NONE);
        due("date(0, 0, 0)", x.date(0, 0, 0), NONE);
        due("turn(0, 0, 1, 0, 0)", x.turn(0, 0, 1, 0, 0), NONE);
        due("unlike(0, 0, 0, 0, 0)", x.unlike(0, 0, 0, 0, 0), NONE);
        due("changed(0, 0, 0)", x.changed(0, 0, 0), NONE);
        due("table(0, 1)", x.table(0, 1), false);
        due("cell(0, 0, 0)", x.cell(0, 0, 0), false);
        due("travel(0, 1, 0)", x.travel(0, 1, 0), false);
        due("witness(0)", x.witness(0), NONE);
        due("report(0, 0)", x.report(0, 0), NONE);
        due("cloud(0, 0)", x.cloud(0, 0), NONE);
    }

    private static void p01ObjectsAreApart() {
        checks.sentence("No LANDS, no MOONS, nothing is told.");
        CrescentCourt full = Worlds.full();
        CrescentCourt x = new CrescentCourt();
        for (int what = 0; what <= 5; what++) {
            due(told("count", what) + " beside a full one", x.count(what), 0);
        }
        String before = Worlds.seenOf(full);
        x.moon(1);
        x.land(0, 3);
        Checks.readText(x, 0, "begin of");
        due("the full one stays", before.equals(Worlds.seenOf(full)), true);
    }

    /** Twenty different bytes: each is a FAULT at its own place once those ahead are blanks. */
    private static void p02HighestByteFirst() {
        checks.sentence("Twenty bytes, the highest of a first, come behind the tape:");
        for (int at = 0; at < 20; at++) {
            int[] words = {0x20202020, 0x20202020, 0x20202020, 0x20202020, 0x20202020};
            words[at / 4] ^= 0x60 << 24 - at % 4 * 8;
            for (int ahead = 0; ahead <= 1; ahead++) {
                CrescentCourt x = Worlds.oneLand();
                if (ahead == 1) {
                    x.feed(0x20202020, 0x0a0a0a0a, 0x09090909, 0x0d0d0d0d, 0x20202020);
                }
                x.feed(words[0], words[1], words[2], words[3], words[4]);
                due("read", x.read(0), 1);
                due("byte " + at, x.place(), at + 20 * ahead);
            }
        }
        CrescentCourt x = Worlds.oneLand();
        x.feed(0x62656769, 0x6e206966, 0x20313d3d, 0x313b2020, 0x20202020);
        due("begin if 1==1;", x.read(0), 0);
        due("it holds", x.begins(0, 1, 0), 29);
        x.feed(0xff202020, 0, 0, 0, 0);
        due("a byte above 127", x.read(0), 1);
        due("its place", x.place(), 0);
    }

    private static void p02HowManyBytes() {
        checks.sentence("how many it has.");
        CrescentCourt x = new CrescentCourt();
        due("20", x.feed(0, 0, 0, 0, 0), 20);
        due("40", x.feed(-1, -1, -1, -1, -1), 40);
        due("back(39)", x.back(39), 1);
        due("21", x.feed(MIN, MAX, 0, 0, 0), 21);
    }

    private static void p02NoMoreThan2000() {
        checks.sentence("NONE, and nothing comes, if it would have more than 2,000.");
        CrescentCourt x = Worlds.oneLand();
        String text = "begin if 1==1;" + " ".repeat(1986);
        due("2,000 bytes", Checks.feedText(x, text), 2000);
        due("at 2,000", x.feed(0, 0, 0, 0, 0), NONE);
        due("2,000 still", x.count(5), 2000);
        due("back(1)", x.back(1), 1999);
        due("at 1,999", x.feed(0, 0, 0, 0, 0), NONE);
        due("1,999 still", x.count(5), 1999);
        due("back(18)", x.back(18), 1981);
        due("at 1,981", x.feed(0, 0, 0, 0, 0), NONE);
        due("1,981 still", x.count(5), 1981);
        due("back(1) again", x.back(1), 1980);
        due("at 1,980", x.feed(0x20202020, 0x20202020, 0x20202020, 0x20202020, 0x20202020), 2000);
        due("none of the refused bytes is there", x.read(0), 0);
        due("the text", x.begins(0, 1, 0), 29);
    }

    private static void p03TheLastBytesGo() {
        checks.sentence("The last n bytes of the tape go: how many it has.");
        CrescentCourt x = Worlds.oneLand();
        Checks.feedText(x, "begin if 1==1;@@@@@@");
        due("back(0)", x.back(0), 20);
        due("back(5)", x.back(5), 15);
        due("back(1)", x.back(1), 14);
        due("the first ones stay", x.read(0), 0);
        due("the text", x.begins(0, 1, 0), 29);
        Checks.feedText(x, "begin if 1==1;@@@@@@");
        due("back(20)", x.back(20), 0);
        due("nothing is left", x.read(0), 0);
        due("no RULES", x.count(4), 0);
        Checks.feedText(x, "begin if 1==1;@@@@@@");
        x.back(6);
        Checks.feedText(x, "not if 1==1;");
        due("others come behind what stayed", x.read(0), 0);
        due("both RULES", x.count(4), 2);
    }

    private static void p03NotSoMany() {
        checks.sentence("NONE, and nothing goes, if it has not so many,");
        CrescentCourt x = Worlds.oneLand();
        due("back(1) of none", x.back(1), NONE);
        Checks.feedText(x, "begin if 1==1;");
        refused(x, "back(15)", c -> c.back(15));
        refused(x, "back(2000)", c -> c.back(2000));
        refused(x, "back(MAX)", c -> c.back(MAX));
        due("all of it", x.read(0), 0);
        due("the text", x.begins(0, 1, 0), 29);
    }

    private static void p03Below0() {
        checks.sentence("or n is below 0.");
        CrescentCourt x = Worlds.oneLand();
        due("back(-1) of none", x.back(-1), NONE);
        due("back(MIN) of none", x.back(MIN), NONE);
        Checks.feedText(x, "begin if 1==1;");
        refused(x, "back(-1)", c -> c.back(-1));
        refused(x, "back(MIN)", c -> c.back(MIN));
    }

    private static void p04TheTapeIsEmptyThen() {
        checks.sentence("The tape, which is empty then, is a LAND's text: 0, or the number of its"
                + " FAULT.");
        CrescentCourt x = Worlds.oneLand();
        due("fine", Checks.readText(x, 0, "begin if 1==1;"), 0);
        due("empty", x.count(5), 0);
        due("SYNTAX", Checks.readText(x, 0, "begin if 1==1"), 1);
        due("empty behind a FAULT", x.count(5), 0);
        due("ROOM", Checks.readText(x, 0, "begin if (((((((1)))))))==1;"), 2);
        due("empty behind a FAULT of ROOM", x.count(5), 0);
        due("back(1)", x.back(1), NONE);
        due("no bytes at all", x.read(0), 0);
        due("no RULES then", x.count(4), 0);
        due("feed behind it", x.feed(0, 0, 0, 0, 0), 20);
    }

    private static void p04NoSuchLand() {
        checks.sentence("NONE: no such LAND (the tape stays).");
        for (int land : NO_LANDS) {
            refused(told("read", land), c -> c.read(land));
        }
        CrescentCourt x = new CrescentCourt();
        Checks.feedText(x, "begin if 1==1;");
        due("read(0), no LANDS", x.read(0), NONE);
        due("the tape", x.count(5), 14);
        x.land(0, 0);
        due("read(1)", x.read(1), NONE);
        due("read(0)", x.read(0), 0);
        due("the text", x.begins(0, 1, 0), 29);
    }

    private static void p05TheLatestFault() {
        checks.sentence("The byte of the latest read()'s FAULT");
        CrescentCourt x = Worlds.lands(2);
        Checks.readText(x, 0, "@");
        due("byte 0", x.place(), 0);
        due("asked again", x.place(), 0);
        Checks.readText(x, 1, "begin of");
        due("of another LAND", x.place(), 6);
        Checks.readText(x, 0, "begin if (((((((");
        due("of ROOM", x.place(), 15);
        Checks.readText(x, 0, "begin" + " ".repeat(1995));
        due("the text's end", x.place(), 2000);
        x.feed(0, 0, 0, 0, 0);
        x.back(3);
        due("feed() and back() leave it", x.place(), 2000);
    }

    private static void p05NotOfARefusedRead() {
        checks.sentence("(that was not NONE);");
        CrescentCourt x = Worlds.oneLand();
        x.read(1);
        due("a refused one alone", x.place(), NONE);
        Checks.readText(x, 0, "begin of");
        for (int land : new int[] {1, -1, MIN, MAX}) {
            due(told("read", land), x.read(land), NONE);
            due("the FAULT ahead of it", x.place(), 6);
        }
        x.read(0);
        x.read(1);
        due("no FAULT ahead of it", x.place(), NONE);
    }

    private static void p05NoneWithout() {
        checks.sentence("NONE without.");
        CrescentCourt x = Worlds.oneLand();
        due("no read()", x.place(), NONE);
        Checks.readText(x, 0, "begin if 1==1;");
        due("no FAULT", x.place(), NONE);
        Checks.readText(x, 0, "begin of");
        x.read(0);
        due("no FAULT behind one", x.place(), NONE);
    }

    private static void p06Fourteen() {
        checks.sentence("NONE, and nothing happens: 14 are told, no such HOUR, it is not later than"
                + " the one ahead.");
        refused(Worlds.full(), "moon(9900) as the 15th", c -> c.moon(9900));
        CrescentCourt x = new CrescentCourt();
        for (int moon = 0; moon < 13; moon++) {
            x.moon(moon);
        }
        due("the 14th", x.moon(13), 13);
        due("the 15th", x.moon(14), NONE);
    }

    private static void p06NoSuchHour() {
        checks.sentence("no such HOUR,");
        for (int hour : new int[] {-1, 10000, MIN, MAX}) {
            refused(told("moon", hour), c -> c.moon(hour));
            due(told("moon", hour) + " as the first", new CrescentCourt().moon(hour), NONE);
        }
        due("moon(0) as the first", new CrescentCourt().moon(0), 0);
        due("moon(9999) as the first", new CrescentCourt().moon(9999), 0);
    }

    private static void p06NotLater() {
        checks.sentence("it is not later than the one ahead.");
        for (int hour : new int[] {660, 659, 3, 0}) {
            refused(told("moon", hour), c -> c.moon(hour));
        }
        due("moon(661)", Worlds.busy().moon(661), 2);
    }

    private static void p07Six() {
        checks.sentence("NONE, and nothing happens: 6 are there, no such SHIFT, EVENING.");
        refused(Worlds.full(), "land(0, 0) as the 7th", c -> c.land(0, 0));
        due("the 6th", Worlds.lands(5).land(0, 0), 5);
        due("the 7th", Worlds.lands(6).land(0, 0), NONE);
    }

    private static void p07NoSuchShiftOrEvening() {
        checks.sentence("no such SHIFT, EVENING.");
        for (int shift : new int[] {-13, 13, MIN, MAX}) {
            refused(told("land", shift, 0), c -> c.land(shift, 0));
        }
        for (int evening : NO_EVENINGS) {
            refused(told("land", 0, evening), c -> c.land(0, evening));
        }
        due("land(-12, 399)", Worlds.busy().land(-12, 399), 3);
        due("land(12, 0)", Worlds.busy().land(12, 0), 3);
    }

    private static void p08ARowOfZeros() {
        checks.sentence("The TABLE of a LAND becomes a row of n (1 .. 60) 0s;");
        CrescentCourt x = Worlds.oneLand();
        for (int n : new int[] {60, 1, 2, 59, 19, 60}) {
            due(told("table", 0, n), x.table(0, n), true);
            due("0 on EVENING 0", x.light(0, 0), 0);
            due("0 on EVENING 399", x.light(0, 399), 0);
            due("no cell behind", x.cell(0, n, 1), false);
            for (int i = 0; i < n; i++) {
                due(told("cell", 0, i, 2), x.cell(0, i, 2), true);
            }
            due("2 on EVENING 0", x.light(0, 0), 2);
        }
    }

    private static void p08Missing() {
        checks.sentence("n NONE: MISSING: true;");
        CrescentCourt x = Worlds.oneLand();
        due("of a MISSING one", x.table(0, NONE), true);
        due("MISSING", x.light(0, 0), 1);
        x.table(0, 1);
        x.cell(0, 0, 2);
        due("of a row", x.table(0, NONE), true);
        due("MISSING again", x.light(0, 0), 1);
        due("no cell", x.cell(0, 0, 2), false);
        x.table(0, 1);
        due("a row of 0s behind it", x.light(0, 0), 0);
    }

    private static void p08FalseForOthers() {
        checks.sentence("false for others.");
        for (int n : new int[] {0, -2, 61, MIN, MAX}) {
            refused(told("table", 0, n), c -> orNone(c.table(0, n)));
            refused(told("table", 2, n), c -> orNone(c.table(2, n)));
        }
        for (int land : NO_LANDS) {
            refused(told("table", land, 5), c -> orNone(c.table(land, 5)));
            refused(told("table", land, NONE), c -> orNone(c.table(land, NONE)));
        }
    }

    private static void p09NoneSuch() {
        checks.sentence("false: there is none such, or another v.");
        for (int i : new int[] {-1, 30, 59, 60, MIN, MAX}) {
            refused(told("cell", 0, i, 1), c -> orNone(c.cell(0, i, 1)));
        }
        refused("cell(2, 0, 1), MISSING", c -> orNone(c.cell(2, 0, 1)));
        for (int land : NO_LANDS) {
            refused(told("cell", land, 0, 1), c -> orNone(c.cell(land, 0, 1)));
        }
        due("cell(0, 29, 1)", Worlds.busy().cell(0, 29, 1), true);
        due("cell(1, 59, 1)", Worlds.busy().cell(1, 59, 1), true);
    }

    private static void p09AnotherV() {
        checks.sentence("Cell i of it becomes v (0 .. 2): true; false: there is none such, or another v.");
        for (int v : new int[] {-1, 3, 256, 258, MIN, MAX}) {
            refused(told("cell", 0, 29, v), c -> orNone(c.cell(0, 29, v)));
        }
        for (int v = 0; v <= 2; v++) {
            CrescentCourt x = Worlds.busy();
            due(told("cell", 0, 29, v), x.cell(0, 29, v), true);
            due("its LIGHT", x.light(0, 300), v);
        }
    }

    private static void p10SoManyDaysOrNever() {
        checks.sentence("TRAVEL from a LAND to another one becomes so many days (NONE: never): true;");
        CrescentCourt x = Worlds.lands(2);
        x.witness(1);
        x.report(0, 29);
        Checks.readText(x, 0, "back if seen==1;");
        int[] days = {0, 11, NONE, 60, 1, 12, 0, NONE};
        int[] begins = {29, 29, 30, 30, 29, 30, 29, 30};
        for (int i = 0; i < days.length; i++) {
            due(told("travel", 1, 0, days[i]), x.travel(1, 0, days[i]), true);
            due("MONTH 1", x.begins(0, 1, 1), begins[i]);
        }
    }

    private static void p10NoSuchOnes() {
        checks.sentence("false: no such ones,");
        for (int land : NO_LANDS) {
            refused(told("travel", land, 0, 1), c -> orNone(c.travel(land, 0, 1)));
            refused(told("travel", 0, land, 1), c -> orNone(c.travel(0, land, 1)));
            refused(told("travel", land, land, 1), c -> orNone(c.travel(land, land, 1)));
        }
        for (int days : new int[] {-2, 61, MIN, MAX}) {
            refused(told("travel", 0, 1, days), c -> orNone(c.travel(0, 1, days)));
            refused(told("travel", 1, 0, days), c -> orNone(c.travel(1, 0, days)));
        }
    }

    private static void p10OneAndTheSame() {
        checks.sentence("one and the same.");
        for (int days : new int[] {NONE, 0, 1, 60}) {
            refused(told("travel", 0, 0, days), c -> orNone(c.travel(0, 0, days)));
            refused(told("travel", 2, 2, days), c -> orNone(c.travel(2, 2, days)));
        }
    }

    private static void p11Twelve() {
        checks.sentence("NONE, and nothing happens: 12 are there, no such LAND.");
        refused(Worlds.full(), "witness(0) as the 13th", c -> c.witness(0));
        CrescentCourt x = Worlds.oneLand();
        for (int witness = 0; witness < 11; witness++) {
            x.witness(0);
        }
        due("the 12th", x.witness(0), 11);
        due("the 13th", x.witness(0), NONE);
    }

    private static void p11NoSuchLand() {
        checks.sentence("no such LAND.");
        for (int land : NO_LANDS) {
            refused(told("witness", land), c -> c.witness(land));
        }
        due("witness(2)", Worlds.busy().witness(2), 3);
    }

    private static void p12ThreeHundred() {
        checks.sentence("NONE, and nothing happens: 300 are there, no such WITNESS, EVENING.");
        refused(Worlds.full(), "report(0, 0) as the 301st", c -> c.report(0, 0));
        CrescentCourt x = Worlds.oneLand();
        x.witness(0);
        for (int fact = 0; fact < 299; fact++) {
            x.cloud(0, fact);
        }
        due("the 300th", x.report(0, 399), 299);
        due("its verdict", x.verdict(299, 300), 1);
        due("the 301st", x.report(0, 399), NONE);
    }

    private static void p12NoSuchWitnessOrEvening() {
        checks.sentence("no such WITNESS, EVENING.");
        for (int witness : new int[] {-1, 3, 12, MIN, MAX}) {
            refused(told("report", witness, 29), c -> c.report(witness, 29));
        }
        for (int evening : NO_EVENINGS) {
            refused(told("report", 0, evening), c -> c.report(0, evening));
        }
        due("report(2, 0)", Worlds.busy().report(2, 0), 5);
        due("report(0, 399)", Worlds.busy().report(0, 399), 5);
    }

    private static void p13ThreeHundred() {
        checks.sentence("A CLOUD: its FACT's number. NONE, and nothing happens: 300 are there,");
        refused(Worlds.full(), "cloud(0, 29) as the 301st", c -> c.cloud(0, 29));
        CrescentCourt x = Worlds.growing();
        for (int fact = 0; fact < 299; fact++) {
            x.report(0, 29);
        }
        due("the 300th", x.cloud(0, 29), 299);
        due("it is KNOWN by 300", x.verdict(0, 300), 1);
        due("it is not by 299", x.verdict(0, 299), 2);
        due("the 301st", x.cloud(0, 29), NONE);
    }

    private static void p13NoSuchLandOrEvening() {
        checks.sentence("no such LAND, EVENING.");
        for (int land : NO_LANDS) {
            refused(told("cloud", land, 29), c -> c.cloud(land, 29));
        }
        for (int evening : NO_EVENINGS) {
            refused(told("cloud", 0, evening), c -> c.cloud(0, evening));
        }
        due("cloud(2, 0)", Worlds.busy().cloud(2, 0), 5);
        due("cloud(0, 399)", Worlds.busy().cloud(0, 399), 5);
    }

    private static void p14NotKnown() {
        checks.sentence("NONE: not known,");
        CrescentCourt x = new CrescentCourt();
        x.land(0, 0);
        due("no MOON", x.age(0, 0), NONE);
        due("no MOON, EVENING 399", x.age(0, 399), NONE);
        x.moon(24 * 200 + 18);
        due("EVENING 199", x.age(0, 199), NONE);
        due("EVENING 200", x.age(0, 200), 0);
    }

    private static void p14NoSuchOnes() {
        checks.sentence("NONE: not known, no such ones.");
        for (int land : NO_LANDS) {
            refused(told("age", land, 29), c -> c.age(land, 29));
        }
        for (int evening : NO_EVENINGS) {
            refused(told("age", 0, evening), c -> c.age(0, evening));
        }
        due("age(2, 399)", Worlds.busy().age(2, 399), 24 * 399 + 13 - 660);
    }

    private static void p15NoSuchOnes() {
        checks.sentence("LIGHT in a LAND on an EVENING; NONE: no such ones.");
        for (int land : NO_LANDS) {
            refused(told("light", land, 29), c -> c.light(land, 29));
        }
        for (int evening : NO_EVENINGS) {
            refused(told("light", 0, evening), c -> c.light(0, evening));
        }
        due("light(2, 399)", Worlds.busy().light(2, 399), 1);
        due("light(0, 0)", Worlds.busy().light(0, 0), 0);
    }

    private static void p16Verdicts() {
        checks.sentence("0 FALSE, 1 open, 2 TRUE;");
        CrescentCourt x = Worlds.growing();
        for (int evening = 0; evening <= 2; evening++) {
            x.report(0, evening);
            due("EVENING " + evening, x.verdict(evening, evening + 1), evening);
        }
    }

    private static void p16NoSuchOneAmongTheFirstN() {
        checks.sentence("NONE: no such one among the first n,");
        CrescentCourt x = Worlds.growing();
        x.report(0, 5);
        x.report(0, 6);
        due("FACT 0 by 0", x.verdict(0, 0), NONE);
        due("FACT 0 by 1", x.verdict(0, 1), 2);
        due("FACT 1 by 1", x.verdict(1, 1), NONE);
        due("FACT 1 by 2", x.verdict(1, 2), 2);
        due("FACT 2 by 2", x.verdict(2, 2), NONE);
        due("FACT 2 by 3", x.verdict(2, 3), NONE);
        due("FACT -1 by 2", x.verdict(-1, 2), NONE);
        due("FACT MIN by 2", x.verdict(MIN, 2), NONE);
        due("FACT MAX by MAX", x.verdict(MAX, MAX), NONE);
        due("FACT 300 by MAX", x.verdict(300, MAX), NONE);
        due("FACT 0 by -1", x.verdict(0, -1), NONE);
        due("FACT -2 by -1", x.verdict(-2, -1), NONE);
        due("FACT 0 by 3, of 2", x.verdict(0, 3), NONE);
    }

    private static void p16ACloud() {
        checks.sentence("NONE: no such one among the first n, a CLOUD.");
        CrescentCourt x = Worlds.growing();
        x.cloud(0, 5);
        x.report(0, 6);
        x.cloud(0, 7);
        due("the first", x.verdict(0, 3), NONE);
        due("a REPORT between", x.verdict(1, 3), 2);
        due("the last", x.verdict(2, 3), NONE);
    }

    private static void p17NoSuchOnes() {
        checks.sentence("WORTH of a WITNESS on an EVENING, as KNOWN by n; NONE: no such ones.");
        for (int witness : new int[] {-1, 3, 12, MIN, MAX}) {
            refused(told("worth", witness, 29, 5), c -> c.worth(witness, 29, 5));
        }
        for (int evening : NO_EVENINGS) {
            refused(told("worth", 0, evening, 5), c -> c.worth(0, evening, 5));
        }
        for (int n : new int[] {-1, 6, MIN, MAX}) {
            refused(told("worth", 0, 29, n), c -> c.worth(0, 29, n));
        }
        due("worth(2, 399, 5)", Worlds.busy().worth(2, 399, 5), 2);
        due("worth(0, 0, 0)", Worlds.busy().worth(0, 0, 0), 2);
    }

    private static void p18NotByEvening399() {
        checks.sentence("NONE: not by EVENING 399,");
        CrescentCourt x = new CrescentCourt();
        x.land(0, 369);
        x.land(0, 370);
        due("on EVENING 399", x.begins(0, 1, 0), 399);
        due("not on EVENING 400", x.begins(1, 1, 0), NONE);
        due("nor any one behind", x.begins(1, 2, 0), NONE);
        due("nor the last one", x.begins(1, 14, 0), NONE);
        CrescentCourt all = Worlds.oneLand();
        Checks.readText(all, 0, "begin if 1==1;");
        due("MONTH 13 of 29 DAYS each", all.begins(0, 13, 0), 377);
        due("MONTH 14, on EVENING 406", all.begins(0, 14, 0), NONE);
    }

    private static void p18NoSuchOnes() {
        checks.sentence("The EVENING on which a MONTH (0 .. 14) of a LAND begins, as KNOWN by n;"
                + " NONE: not by EVENING 399, no such ones.");
        for (int land : NO_LANDS) {
            refused(told("begins", land, 0, 5), c -> c.begins(land, 0, 5));
        }
        for (int month : new int[] {-1, 15, MIN, MAX}) {
            refused(told("begins", 0, month, 5), c -> c.begins(0, month, 5));
        }
        for (int n : new int[] {-1, 6, 301, MIN, MAX}) {
            refused(told("begins", 0, 0, n), c -> c.begins(0, 0, n));
        }
        due("begins(2, 0, 5)", Worlds.busy().begins(2, 0, 5), 0);
        due("begins(1, 1, 5)", Worlds.busy().begins(1, 1, 5), 29);
    }

    private static void p19ByARule() {
        checks.sentence("the first begin RULE that held, or the first back RULE that set it back;");
        CrescentCourt x = Worlds.oneLand();
        Checks.readText(x, 0, "begin if month==2; back if 1==2; begin if month<=2; begin if month==1;"
                + "back if month==3; back if 1==1; not if 5<=month; begin if month==5;");
        due("MONTH 1", x.by(0, 1, 0), 2);
        due("MONTH 2", x.by(0, 2, 0), 0);
        due("MONTH 3", x.by(0, 3, 0), 4);
        due("MONTH 4", x.by(0, 4, 0), 5);
        due("MONTH 5, where a not RULE holds", x.by(0, 5, 0), 5);
    }

    private static void p19By30DaysAlone() {
        checks.sentence("-2: by 30 DAYS alone;");
        CrescentCourt x = Worlds.oneLand();
        for (int month = 1; month <= 13; month++) {
            due("no RULES, MONTH " + month, x.by(0, month, 0), BY_30_DAYS);
        }
        Checks.readText(x, 0, "not if 1==1; begin if 1==1; back if 1==2;");
        due("RULES that do nothing", x.by(0, 1, 0), BY_30_DAYS);
    }

    private static void p19DidNotBegin() {
        checks.sentence("NONE: it did not begin,");
        CrescentCourt x = new CrescentCourt();
        x.land(0, 369);
        x.land(0, 370);
        due("on EVENING 399", x.by(0, 1, 0), BY_30_DAYS);
        due("MONTH 2", x.by(0, 2, 0), NONE);
        due("not by EVENING 399", x.by(1, 1, 0), NONE);
        due("MONTH 14", x.by(0, 14, 0), NONE);
    }

    private static void p19NoSuchOnes() {
        checks.sentence("By what a MONTH (1 .. 14) of a LAND began, as KNOWN by n:");
        for (int land : NO_LANDS) {
            refused(told("by", land, 1, 5), c -> c.by(land, 1, 5));
        }
        for (int month : new int[] {0, -1, 15, MIN, MAX}) {
            refused(told("by", 0, month, 5), c -> c.by(0, month, 5));
        }
        for (int n : new int[] {-1, 6, 301, MIN, MAX}) {
            refused(told("by", 0, 1, n), c -> c.by(0, 1, n));
        }
    }

    private static void p20WhenItBegan() {
        checks.sentence("The i-th REPORT (its FACT), by numbers, that was HEARD when a MONTH (1 .. 14)"
                + " of a LAND began,");
        CrescentCourt x = Worlds.lands(2);
        x.travel(1, 0, 1);
        x.witness(0);
        x.witness(1);
        x.report(0, 29);
        x.report(1, 29);
        x.cloud(0, 29);
        x.report(0, 29);
        x.report(0, 30);
        Checks.readText(x, 0, "begin if seen==1;");
        due("the first", x.heard(0, 1, 0, 5), 0);
        due("the second: news of FACT 1 is late", x.heard(0, 1, 1, 5), 3);
        due("no third", x.heard(0, 1, 2, 5), NONE);
        due("as KNOWN by 3", x.heard(0, 1, 1, 3), NONE);
        x.read(0);
        due("by 30 DAYS, on that EVENING", x.heard(0, 1, 0, 5), 4);
        due("no other", x.heard(0, 1, 1, 5), NONE);
    }

    private static void p20WhenItWasSetBack() {
        checks.sentence("or, if it was set back, when that was done,");
        CrescentCourt x = Worlds.lands(2);
        x.travel(1, 0, 5);
        x.witness(0);
        x.witness(1);
        x.report(1, 29);
        x.report(0, 30);
        x.report(0, 29);
        Checks.readText(x, 0, "back if days==3;");
        due("ahead of its news", x.heard(0, 1, 0, 3), 2);
        due("no other", x.heard(0, 1, 1, 3), NONE);
        Checks.readText(x, 0, "back if days==4;");
        due("with its news", x.heard(0, 1, 0, 3), 0);
        due("both", x.heard(0, 1, 1, 3), 2);
        due("no third", x.heard(0, 1, 2, 3), NONE);
    }

    private static void p20NotSoMany() {
        checks.sentence("NONE: not so many,");
        CrescentCourt x = Worlds.oneLand();
        x.witness(0);
        due("i 0 of none", x.heard(0, 1, 0, 0), NONE);
        for (int fact = 0; fact < 300; fact++) {
            x.report(0, 30);
        }
        due("i 0", x.heard(0, 1, 0, 300), 0);
        due("i 299", x.heard(0, 1, 299, 300), 299);
        due("i 300", x.heard(0, 1, 300, 300), NONE);
        due("i 298 by 299", x.heard(0, 1, 298, 299), 298);
        due("i 299 by 299", x.heard(0, 1, 299, 299), NONE);
        due("i MAX", x.heard(0, 1, MAX, 300), NONE);
        due("i -1", x.heard(0, 1, -1, 300), NONE);
        due("i MIN", x.heard(0, 1, MIN, 300), NONE);
    }

    private static void p20DidNotBegin() {
        checks.sentence("NONE: not so many, it did not begin,");
        CrescentCourt x = new CrescentCourt();
        x.moon(0);
        x.land(0, 370);
        x.witness(0);
        x.report(0, 399);
        x.report(0, 0);
        due("not by EVENING 399", x.heard(0, 1, 0, 2), NONE);
        due("MONTH 14", x.heard(0, 14, 0, 2), NONE);
        Checks.readText(x, 0, "begin if seen==1;");
        due("on EVENING 399", x.heard(0, 1, 0, 2), 0);
    }

    private static void p20NoSuchOnes() {
        checks.sentence("NONE: not so many, it did not begin, no such ones.");
        for (int land : NO_LANDS) {
            refused(told("heard", land, 1, 0, 5), c -> c.heard(land, 1, 0, 5));
        }
        for (int month : new int[] {0, -1, 15, MIN, MAX}) {
            refused(told("heard", 0, month, 0, 5), c -> c.heard(0, month, 0, 5));
        }
        for (int n : new int[] {-1, 6, 301, MIN, MAX}) {
            refused(told("heard", 0, 1, 0, n), c -> c.heard(0, 1, 0, n));
        }
        CrescentCourt told = Worlds.oneLand();
        told.witness(0);
        told.report(0, 0);
        due("MONTH 0, with a REPORT of its EVENING", told.heard(0, 0, 0, 1), NONE);
    }

    private static void p21Days1To30() {
        checks.sentence("The MONTH, and its day (1 .. 30, from the EVENING on which it begins),");
        CrescentCourt x = new CrescentCourt();
        x.land(0, 10);
        Checks.readText(x, 0, "begin if month==2;");
        due("day 1 of MONTH 0", x.date(0, 10, 0), 1);
        due("day 30 of MONTH 0", x.date(0, 39, 0), 30);
        due("day 1 of MONTH 1", x.date(0, 40, 0), 101);
        due("day 29 of MONTH 1", x.date(0, 68, 0), 129);
        due("day 1 of MONTH 2", x.date(0, 69, 0), 201);
        due("EVENING 399", x.date(0, 399, 0), 1301);
        CrescentCourt last = new CrescentCourt();
        last.land(0, 399);
        last.land(0, 370);
        due("MONTH 0 from EVENING 399", last.date(0, 399, 0), 1);
        due("day 30 on EVENING 399", last.date(1, 399, 0), 30);
    }

    private static void p21AheadOfMonth0() {
        checks.sentence("NONE: ahead of MONTH 0,");
        CrescentCourt x = new CrescentCourt();
        x.land(0, 10);
        x.land(0, 399);
        due("EVENING 0", x.date(0, 0, 0), NONE);
        due("EVENING 9", x.date(0, 9, 0), NONE);
        due("EVENING 398", x.date(1, 398, 0), NONE);
    }

    private static void p21ByBeginsOfAllMonths() {
        checks.sentence("(By begins() of all MONTHS.)");
        CrescentCourt x = Worlds.oneLand();
        Checks.readText(x, 0, "back if days==10 and month==1; begin if month==3;");
        for (int month = 0; month <= 13; month++) {
            int first = x.begins(0, month, 0);
            due("day 1 of MONTH " + month, x.date(0, first, 0), 100 * month + 1);
            due("day 29 of MONTH " + month, x.date(0, Math.min(first + 28, 399), 0),
                    100 * month + Math.min(29, 400 - first));
        }
        due("the EVENING that it was set back to", x.date(0, 29, 0), 101);
    }

    private static void p21NoSuchOnes() {
        checks.sentence("NONE: ahead of MONTH 0, no such ones.");
        for (int land : NO_LANDS) {
            refused(told("date", land, 29, 5), c -> c.date(land, 29, 5));
        }
        for (int evening : NO_EVENINGS) {
            refused(told("date", 0, evening, 5), c -> c.date(0, evening, 5));
        }
        for (int n : new int[] {-1, 6, 301, MIN, MAX}) {
            refused(told("date", 0, 29, n), c -> c.date(0, 29, n));
        }
    }

    private static void p22ADayOfAMonth() {
        checks.sentence("The date (as date()) in a LAND on the EVENING that is a day (1 .. 30) of a"
                + " MONTH (0 .. 14) in another one,");
        CrescentCourt x = new CrescentCourt();
        x.land(0, 0);
        x.land(0, 3);
        due("day 1 of MONTH 0", x.turn(1, 0, 1, 0, 0), 4);
        due("day 30 of MONTH 0", x.turn(1, 0, 30, 0, 0), 103);
        due("day 1 of MONTH 13", x.turn(1, 13, 1, 0, 0), 1304);
        due("the other way", x.turn(0, 1, 1, 1, 0), 28);
        due("its own LAND", x.turn(0, 13, 10, 0, 0), 1310);
    }

    private static void p22NoSuchDay() {
        checks.sentence("NONE: that MONTH has no such day by EVENING 399,");
        CrescentCourt x = new CrescentCourt();
        x.land(0, 0);
        x.land(0, 0);
        Checks.readText(x, 0, "begin if month==1; back if month==2;");
        due("day 29 of 29", x.turn(0, 0, 29, 1, 0), 29);
        due("day 30 of 29", x.turn(0, 0, 30, 1, 0), NONE);
        due("day 30 of 29, set back", x.turn(0, 1, 30, 1, 0), NONE);
        due("day 29 of 29, set back", x.turn(0, 1, 29, 1, 0), 128);
        due("day 30 of 30", x.turn(0, 2, 30, 1, 0), 228);
        due("EVENING 399", x.turn(1, 13, 10, 0, 0), 1312);
        due("EVENING 400", x.turn(1, 13, 11, 0, 0), NONE);
        due("no MONTH 14", x.turn(1, 14, 1, 0, 0), NONE);
        CrescentCourt last = new CrescentCourt();
        last.land(0, 370);
        last.land(0, 371);
        due("day 30 on EVENING 399", last.turn(0, 0, 30, 1, 0), 29);
        due("day 30 on EVENING 400", last.turn(1, 0, 30, 0, 0), NONE);
        due("day 29 on EVENING 399", last.turn(1, 0, 29, 0, 0), 30);
    }

    private static void p22AheadOfTheOthersMonth0() {
        checks.sentence("it is ahead of the other's MONTH 0,");
        CrescentCourt x = new CrescentCourt();
        x.land(0, 0);
        x.land(0, 31);
        due("EVENING 30", x.turn(0, 1, 1, 1, 0), NONE);
        due("EVENING 31", x.turn(0, 1, 2, 1, 0), 1);
    }

    private static void p22NoSuchOnes() {
        checks.sentence("it is ahead of the other's MONTH 0, no such ones.");
        for (int land : NO_LANDS) {
            refused(told("turn", land, 1, 1, 0, 5), c -> c.turn(land, 1, 1, 0, 5));
            refused(told("turn", 0, 1, 1, land, 5), c -> c.turn(0, 1, 1, land, 5));
        }
        for (int month : new int[] {-1, 15, MIN, MAX}) {
            refused(told("turn", 0, month, 1, 1, 5), c -> c.turn(0, month, 1, 1, 5));
        }
        for (int day : new int[] {0, -1, 31, MIN, MAX}) {
            refused(told("turn", 0, 1, day, 1, 5), c -> c.turn(0, 1, day, 1, 5));
        }
        for (int n : new int[] {-1, 6, 301, MIN, MAX}) {
            refused(told("turn", 0, 1, 1, 1, n), c -> c.turn(0, 1, 1, 1, n));
        }
    }

    private static void p23FromAToB() {
        checks.sentence("On how many EVENINGS from a to b two LANDS have unlike dates");
        CrescentCourt x = Worlds.lands(2);
        Checks.readText(x, 0, "begin if month==1;");
        Checks.readText(x, 1, "begin if month==2;");
        due("EVENING 28", x.unlike(0, 1, 28, 28, 0), 0);
        due("EVENING 29", x.unlike(0, 1, 29, 29, 0), 1);
        due("EVENING 58", x.unlike(0, 1, 58, 58, 0), 1);
        due("EVENING 59", x.unlike(0, 1, 59, 59, 0), 0);
        due("28 to 59", x.unlike(0, 1, 28, 59, 0), 30);
        due("29 to 58", x.unlike(1, 0, 29, 58, 0), 30);
        due("0 to 399", x.unlike(0, 1, 0, 399, 0), 30);
        due("399 alone", x.unlike(0, 1, 399, 399, 0), 0);
        due("0 alone", x.unlike(0, 1, 0, 0, 0), 0);
        due("a LAND and itself", x.unlike(0, 0, 0, 399, 0), 0);
        CrescentCourt all = new CrescentCourt();
        all.land(0, 0);
        all.land(0, 1);
        due("on all 400", all.unlike(0, 1, 0, 399, 0), 400);
    }

    private static void p23OneAheadOfItsMonth0() {
        checks.sentence("(one ahead of its MONTH 0, the other not, counts),");
        CrescentCourt x = new CrescentCourt();
        x.land(0, 10);
        x.land(0, 20);
        x.land(0, 10);
        due("both ahead", x.unlike(0, 1, 0, 9, 0), 0);
        due("one ahead", x.unlike(0, 1, 0, 10, 0), 1);
        due("the other ahead", x.unlike(1, 0, 10, 19, 0), 10);
        due("none ahead, alike", x.unlike(0, 2, 0, 399, 0), 0);
    }

    private static void p23AAboveB() {
        checks.sentence("NONE: no such ones, a above b.");
        refused("unlike(0, 1, 6, 5, 5)", c -> c.unlike(0, 1, 6, 5, 5));
        refused("unlike(0, 1, 399, 0, 5)", c -> c.unlike(0, 1, 399, 0, 5));
        refused("unlike(0, 0, 1, 0, 5)", c -> c.unlike(0, 0, 1, 0, 5));
        due("a equal to b", Worlds.busy().unlike(0, 1, 5, 5, 5), 0);
    }

    private static void p23NoSuchOnes() {
        checks.sentence("NONE: no such ones, a above b.");
        for (int land : NO_LANDS) {
            refused(told("unlike", land, 0, 0, 9, 5), c -> c.unlike(land, 0, 0, 9, 5));
            refused(told("unlike", 0, land, 0, 9, 5), c -> c.unlike(0, land, 0, 9, 5));
        }
        for (int evening : NO_EVENINGS) {
            refused(told("unlike", 0, 1, evening, 399, 5), c -> c.unlike(0, 1, evening, 399, 5));
            refused(told("unlike", 0, 1, 0, evening, 5), c -> c.unlike(0, 1, 0, evening, 5));
            refused(told("unlike", 0, 1, evening, evening, 5),
                    c -> c.unlike(0, 1, evening, evening, 5));
        }
        for (int n : new int[] {-1, 6, 301, MIN, MAX}) {
            refused(told("unlike", 0, 1, 0, 9, n), c -> c.unlike(0, 1, 0, 9, n));
        }
    }

    private static void p24TheFirstMonth() {
        checks.sentence("The first MONTH (1 .. 14) of a LAND that begins on another EVENING as KNOWN"
                + " by m than as KNOWN by n");
        CrescentCourt x = new CrescentCourt();
        x.moon(0);
        x.land(0, 9);
        x.witness(0);
        x.report(0, 398);
        x.report(0, 68);
        x.report(0, 38);
        Checks.readText(x, 0, "begin if seen==1;");
        due("MONTH 13", x.changed(0, 0, 1), 13);
        due("MONTH 13, the other way", x.changed(0, 1, 0), 13);
        due("MONTH 2", x.changed(0, 1, 2), 2);
        due("MONTH 1", x.changed(0, 2, 3), 1);
        due("the first of all", x.changed(0, 3, 0), 1);
    }

    private static void p24OnNoneInOneOfBoth() {
        checks.sentence("(or on none in one of both);");
        CrescentCourt x = new CrescentCourt();
        x.moon(0);
        x.land(0, 370);
        x.witness(0);
        x.report(0, 399);
        Checks.readText(x, 0, "begin if seen==1;");
        due("on none by n", x.changed(0, 0, 1), 1);
        due("on none by m", x.changed(0, 1, 0), 1);
    }

    private static void p24None() {
        checks.sentence("NONE: none,");
        CrescentCourt x = Worlds.oneLand();
        x.witness(0);
        x.report(0, 0);
        Checks.readText(x, 0, "begin if seen==1;");
        due("alike", x.changed(0, 0, 1), NONE);
        due("one and the same n", x.changed(0, 1, 1), NONE);
        due("by none", x.changed(0, 0, 0), NONE);
        CrescentCourt late = new CrescentCourt();
        late.land(0, 399);
        late.cloud(0, 399);
        due("on none in both", late.changed(0, 0, 1), NONE);
    }

    private static void p24NoSuchOnes() {
        checks.sentence("NONE: none, no such ones.");
        for (int land : NO_LANDS) {
            refused(told("changed", land, 0, 5), c -> c.changed(land, 0, 5));
        }
        for (int n : new int[] {-1, 6, 301, MIN, MAX}) {
            refused(told("changed", 0, n, 5), c -> c.changed(0, n, 5));
            refused(told("changed", 0, 0, n), c -> c.changed(0, 0, n));
            refused(told("changed", 1, 0, n), c -> c.changed(1, 0, n));
        }
        for (int land = 0; land < 3; land++) {
            due(told("changed", land, 0, 5), Worlds.busy().changed(land, 0, 5), 1);
        }
    }

    private static void p25Counts() {
        checks.sentence("0 LANDS, 1 MOONS, 2 WITNESSES, 3 FACTS, 4 RULES of all LANDS, 5 bytes on the"
                + " tape.");
        int[] busy = {3, 2, 3, 5, 5, 18};
        int[] full = {6, 14, 12, 300, 1, 2000};
        CrescentCourt ofBusy = Worlds.busy();
        CrescentCourt ofFull = Worlds.full();
        for (int what = 0; what <= 5; what++) {
            due("busy: " + told("count", what), ofBusy.count(what), busy[what]);
            due("full: " + told("count", what), ofFull.count(what), full[what]);
        }
        CrescentCourt x = Worlds.lands(6);
        for (int land = 0; land < 6; land++) {
            Checks.readText(x, land, "not if 1==1;".repeat(12));
            due("RULES of " + (land + 1) + " LANDS", x.count(4), 12 * (land + 1));
        }
    }

    private static void p25NoneForOthers() {
        checks.sentence("NONE for others.");
        for (int what : new int[] {-1, 6, 7, MIN, MAX}) {
            refused(told("count", what), c -> c.count(what));
        }
    }
}
