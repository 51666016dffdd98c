/** For each promise of the document: ordinary calls, the edges that it names, and wrong ones. */
public final class PromisesTest {
    private static final int NONE = CrescentCourt.NONE;
    private static final int MAX = Integer.MAX_VALUE;
    private static final int MIN = Integer.MIN_VALUE;
    private static final Checks checks = new Checks();

    public static void main(String[] args) {
        promise1NewObject();
        promise2Feed();
        promise3Back();
        promise4Read();
        promise4Tokens();
        promise4Room();
        promise4BytesThatWent();
        promise5Place();
        promise6Moon();
        promise7Land();
        promise8Table();
        promise9Cell();
        promise10Travel();
        promise11Witness();
        promise12Report();
        promise13Cloud();
        promise14Age();
        promise15Light();
        promise16Verdict();
        promise17Worth();
        promise18Begins();
        promise18Arithmetic();
        promise18Vars();
        promise18Others();
        promise18SetBack();
        promise18AskedAgain();
        promise19By();
        promise20Heard();
        promise21Date();
        promise22Turn();
        promise23Unlike();
        promise24Changed();
        promise25Count();
        checks.end();
    }

    private static void due(String call, int got, int want) {
        checks.due(call, got, want);
    }

    private static void due(String call, boolean got, boolean want) {
        checks.due(call, got, want);
    }

    private static String times(int n, String part) {
        return part.repeat(n);
    }

    /** The EVENING on which MONTH 1 of LAND 0 begins under a text: 29 if it holds, else 30. */
    private static boolean holds(CrescentCourt x, String condition, int n) {
        due("read of " + condition, Checks.readText(x, 0, "begin if " + condition + ";"), 0);
        int evening = x.begins(0, 1, n) - x.begins(0, 0, n);
        due("29 or 30 for " + condition, evening == 29 || evening == 30, true);
        return evening == 29;
    }

    private static void promise1NewObject() {
        CrescentCourt x = new CrescentCourt();
        for (int what = 0; what <= 5; what++) {
            due("new: count(" + what + ")", x.count(what), 0);
        }
        due("new: place()", x.place(), NONE);
        due("new: read(0)", x.read(0), NONE);
        due("new: begins(0, 0, 0)", x.begins(0, 0, 0), NONE);
        due("new: age(0, 0)", x.age(0, 0), NONE);
        due("new: verdict(0, 0)", x.verdict(0, 0), NONE);
        due("new: worth(0, 0, 0)", x.worth(0, 0, 0), NONE);
        due("new: back(0)", x.back(0), 0);
        CrescentCourt other = new CrescentCourt();
        other.land(0, 0);
        due("objects are apart", x.count(0), 0);
    }

    private static void promise2Feed() {
        CrescentCourt x = Worlds.oneLand();
        for (int i = 1; i <= 100; i++) {
            due("feed " + i, x.feed(MIN, MAX, -1, 0, 1), 20 * i);
        }
        due("feed 101", x.feed(0, 0, 0, 0, 0), NONE);
        due("feed 101: tape", x.count(5), 2000);
        due("back(1)", x.back(1), 1999);
        due("feed at 1999", x.feed(0, 0, 0, 0, 0), NONE);
        due("back(19)", x.back(19), 1980);
        due("feed at 1980", x.feed(0, 0, 0, 0, 0), 2000);

        CrescentCourt order = Worlds.oneLand();
        order.feed(0x62656769, 0x6e206966, 0x20313d3d, 0x313b2020, 0x20202040);
        due("the lowest byte of e comes last", order.read(0), 1);
        due("its place", order.place(), 19);
    }

    private static void promise3Back() {
        CrescentCourt x = Worlds.oneLand();
        due("back(0), empty", x.back(0), 0);
        due("back(1), empty", x.back(1), NONE);
        x.feed(0, 0, 0, 0, 0);
        due("back(-1)", x.back(-1), NONE);
        due("back(MIN)", x.back(MIN), NONE);
        due("back(21)", x.back(21), NONE);
        due("back(MAX)", x.back(MAX), NONE);
        due("tape stays", x.count(5), 20);
        due("back(0)", x.back(0), 20);
        due("back(7)", x.back(7), 13);
        due("back(13)", x.back(13), 0);
    }

    private static void fault(String text, int fault, int place) {
        CrescentCourt x = Worlds.oneLand();
        Checks.readText(x, 0, "begin if 1 == 1;");
        due("read of \"" + text + "\"", Checks.readText(x, 0, text), fault);
        due("place in \"" + text + "\"", x.place(), place);
        due("tape behind \"" + text + "\"", x.count(5), 0);
        if (fault != 0) {
            due("RULES behind \"" + text + "\"", x.count(4), 1);
            due("begins behind \"" + text + "\"", x.begins(0, 1, 0), 29);
        }
    }

    private static void promise4Read() {
        CrescentCourt x = Worlds.oneLand();
        Checks.feedText(x, "begin if 1==1;");
        due("read(1)", x.read(1), NONE);
        due("read(-1)", x.read(-1), NONE);
        due("read(MIN)", x.read(MIN), NONE);
        due("the tape stays", x.count(5), 14);
        due("read(0)", x.read(0), 0);
        due("the tape is empty", x.count(5), 0);
        due("RULES", x.count(4), 1);
        due("begins", x.begins(0, 1, 0), 29);
        due("read(0), no text", x.read(0), 0);
        due("no RULES", x.count(4), 0);
        due("begins without RULES", x.begins(0, 1, 0), 30);

        fault("", 0, NONE);
        fault(" \t\r\n", 0, NONE);
        fault("not if days<29or 2*(seen+worth)-best<=light and cloud!=others;back if month==1;",
                0, NONE);
        fault("if", 1, 0);
        fault("days", 1, 0);
        fault("begin", 1, 5);
        fault("begin ", 1, 6);
        fault("begin begin", 1, 6);
        fault("begin if", 1, 8);
        fault("begin if ;", 1, 9);
        fault("begin if 1", 1, 10);
        fault("begin if 1;", 1, 10);
        fault("begin if 1 and 2", 1, 11);
        fault("begin if 1==1", 1, 13);
        fault("begin if 1==1)", 1, 13);
        fault("begin if 1==1==1;", 1, 13);
        fault("begin if 1==1;;", 1, 14);
        fault("begin if 1==1 and;", 1, 17);
        fault("begin if 1==1 or not", 1, 17);
        fault("begin if -1==1;", 1, 9);
        fault("begin if (1==1);", 1, 11);
        fault("begin if (1)==(2);", 0, NONE);
        fault("begin if ()==1;", 1, 10);
        fault("begin if (1 1)==1;", 1, 12);
        fault("begin if (1+;", 1, 12);
        fault("begin if (1;", 1, 11);
        fault("begin if (1 and 1)==1;", 1, 12);
        fault("begin if 1 1", 1, 11);
        fault("begin if 1==if", 1, 12);
        fault("begin if 1+*2==1;", 1, 11);
        fault("begin if 1=1;", 1, 10);
    }

    private static void promise4Tokens() {
        fault("beginif1==1;notif2==2;", 1, 0);
        fault("begin if1==1;not if2==2;back if days<29or 1<2and 3<4;", 0, NONE);
        fault("begin if 9999==1;", 0, NONE);
        fault("begin if 0000==1;", 0, NONE);
        fault("begin if 10000==1;", 1, 9);
        fault("begin if 00001==1;", 1, 9);
        fault("begin if daysdays==1;", 1, 9);
        fault("begin if daysdaysd==1;", 1, 9);
        fault("begin if Days==1;", 1, 9);
        fault("begin if day==1;", 1, 9);
        fault("begin if daysz==1;", 1, 9);
        fault("begin if adays==1;", 1, 9);
        fault("begin if days`==1;", 1, 13);
        fault("begin if days{==1;", 1, 13);
        fault("begin if 1/==1;", 1, 10);
        fault("begin if 1:==1;", 1, 10);
        fault("begin if 1 = = 1;", 1, 11);
        fault("begin if 1===1;", 1, 12);
        fault("begin if 1<==1;", 1, 12);
        fault("begin if 1 < = 1;", 1, 13);
        fault("begin if 1!1;", 1, 10);
        fault("begin if 1>1;", 1, 10);
        fault("begin if 1==1;\u0000", 1, 14);
        fault("begin if 1==1;\u00ff", 1, 14);
        fault("begin if 1==1;\u000b", 1, 14);
        fault("begin\tif\r\n1==1;\n", 0, NONE);
        fault("begin if 1==1;=", 1, 14);
        fault("begin if 1==1;!", 1, 14);
    }

    private static void promise4Room() {
        String twelve = times(12, "not if 1==1;");
        fault(twelve, 0, NONE);
        fault(twelve + " begin", 2, 145);
        fault(twelve + " begin oops", 2, 145);
        fault(twelve + " oops", 1, 145);
        fault(twelve + " if", 1, 145);

        fault("begin if ((((((1))))))==1;", 0, NONE);
        fault("begin if (((((((1)))))))==1;", 2, 15);
        fault("begin if ((((((1", 1, 16);
        fault("begin if ((((((1(", 1, 16);
        fault("begin if ((((((1))))))*(2)==((((((1*(2)", 2, 36);

        // 6 TOKENS and 2 for each sign and its UNIT.
        fault("begin if 1" + times(197, "+1") + "==1;", 0, NONE);
        String rule394 = "begin if 1" + times(194, "+1") + "==1;";
        fault(rule394 + "not if 1==1;", 0, NONE);
        fault(rule394 + "not if 1==1;not", 2, rule394.length() + 12);
        fault(rule394 + "not if 1==1;if", 1, rule394.length() + 12);
        fault(rule394 + "not if 1==1;@", 1, rule394.length() + 12);
        fault(rule394 + "not if 1==1; ", 0, NONE);
        fault(rule394 + "not if 1+1==1;", 2, rule394.length() + 12);
        fault(rule394 + "not if 1==1+ 2;", 2, rule394.length() + 13);
        fault(rule394 + "not if 1==1+;", 1, rule394.length() + 12);
    }

    /** Of a text whose last bytes went by back(). */
    private static void faultOfCut(String text, int cut, int fault, int place) {
        CrescentCourt x = Worlds.oneLand();
        Checks.feedText(x, text);
        x.back(cut);
        due("read of \"" + text + "\" less " + cut, x.read(0), fault);
        due("place in \"" + text + "\" less " + cut, x.place(), place);
    }

    private static void promise4BytesThatWent() {
        faultOfCut("begin if 1==1;not if 1==1;", 12, 0, NONE);
        faultOfCut("begin   ", 2, 1, 6);
        faultOfCut("begin if daysz", 1, 1, 13);
        faultOfCut("begin if 12345", 1, 1, 13);
        faultOfCut("begin if 1==", 1, 1, 10);
        faultOfCut("begin if 1<=", 1, 1, 11);
        faultOfCut("begin if 1==1;@", 1, 0, NONE);
    }

    private static void promise5Place() {
        CrescentCourt x = Worlds.oneLand();
        due("place, no read", x.place(), NONE);
        Checks.readText(x, 0, "begin of");
        due("place of a FAULT", x.place(), 6);
        due("read(3)", x.read(3), NONE);
        due("a read that was NONE leaves it", x.place(), 6);
        due("read of nothing", x.read(0), 0);
        due("place without FAULT", x.place(), NONE);
        Checks.readText(x, 0, "begin if 1==1");
        due("place at the text's end", x.place(), 13);
    }

    private static void promise6Moon() {
        CrescentCourt x = new CrescentCourt();
        due("moon(-1)", x.moon(-1), NONE);
        due("moon(10000)", x.moon(10000), NONE);
        due("moon(MIN)", x.moon(MIN), NONE);
        due("moon(0)", x.moon(0), 0);
        due("moon(0) again", x.moon(0), NONE);
        due("moon(5)", x.moon(5), 1);
        due("moon(4)", x.moon(4), NONE);
        for (int i = 2; i < 13; i++) {
            due("moon " + i, x.moon(100 * i), i);
        }
        due("moon(9999)", x.moon(9999), 13);
        due("the 15th", x.moon(9999), NONE);
        due("MOONS", x.count(1), 14);

        CrescentCourt full = new CrescentCourt();
        for (int i = 0; i < 14; i++) {
            due("moon " + i, full.moon(i), i);
        }
        due("a 15th", full.moon(50), NONE);
        due("14 MOONS", full.count(1), 14);
    }

    private static void promise7Land() {
        CrescentCourt x = new CrescentCourt();
        due("land(-13, 0)", x.land(-13, 0), NONE);
        due("land(13, 0)", x.land(13, 0), NONE);
        due("land(0, -1)", x.land(0, -1), NONE);
        due("land(0, 400)", x.land(0, 400), NONE);
        due("land(MIN, MAX)", x.land(MIN, MAX), NONE);
        due("land(-12, 0)", x.land(-12, 0), 0);
        due("land(12, 399)", x.land(12, 399), 1);
        for (int i = 2; i < 6; i++) {
            due("land " + i, x.land(i, i), i);
        }
        due("the 7th", x.land(0, 0), NONE);
        due("LANDS", x.count(0), 6);
        due("begins(1, 0, 0)", x.begins(1, 0, 0), 399);
        due("begins(5, 0, 0)", x.begins(5, 0, 0), 5);
    }

    private static void promise8Table() {
        CrescentCourt x = Worlds.oneLand();
        due("table(1, 1)", x.table(1, 1), false);
        due("table(-1, 1)", x.table(-1, 1), false);
        due("table(0, 0)", x.table(0, 0), false);
        due("table(0, -2)", x.table(0, -2), false);
        due("table(0, 61)", x.table(0, 61), false);
        due("table(0, MIN)", x.table(0, MIN), false);
        due("still MISSING", x.light(0, 0), 1);
        due("table(0, 60)", x.table(0, 60), true);
        due("0s", x.light(0, 0), 0);
        due("cell 59", x.cell(0, 59, 2), true);
        due("cell 18", x.cell(0, 18, 1), true);
        due("its LIGHT", x.light(0, 0), 1);
        due("behind the row", x.light(0, 5), 2);
        due("table(0, 61) changes nothing", x.table(0, 61), false);
        due("its LIGHT still", x.light(0, 5), 2);
        due("table(0, 20)", x.table(0, 20), true);
        due("0s again", x.light(0, 0), 0);
        due("0s again, behind", x.light(0, 5), 0);
        due("table(0, 1)", x.table(0, 1), true);
        due("cell 0", x.cell(0, 0, 2), true);
        due("the last one", x.light(0, 7), 2);
        due("table(0, NONE)", x.table(0, NONE), true);
        due("MISSING", x.light(0, 0), 1);
        due("table(0, 30)", x.table(0, 30), true);
        due("a row of 0s behind MISSING", x.light(0, 0), 0);
    }

    private static void promise9Cell() {
        CrescentCourt x = Worlds.oneLand();
        due("MISSING", x.cell(0, 0, 0), false);
        x.table(0, 20);
        due("cell(0, -1, 0)", x.cell(0, -1, 0), false);
        due("cell(0, 20, 0)", x.cell(0, 20, 0), false);
        due("cell(0, 18, 3)", x.cell(0, 18, 3), false);
        due("cell(0, 18, -1)", x.cell(0, 18, -1), false);
        due("cell(1, 0, 0)", x.cell(1, 0, 0), false);
        due("cell(-1, 0, 0)", x.cell(-1, 0, 0), false);
        due("nothing yet", x.light(0, 0), 0);
        for (int v = 2; v >= 0; v--) {
            due("cell(0, 18, v)", x.cell(0, 18, v), true);
            due("LIGHT v", x.light(0, 0), v);
        }
        due("cell(0, 19, 2)", x.cell(0, 19, 2), true);
        due("the last cell", x.light(0, 1), 2);
    }

    private static void promise10Travel() {
        CrescentCourt x = Worlds.oneLand();
        x.land(0, 3);
        int w = x.witness(1);
        x.report(w, 29);
        due("travel(0, 0, 1)", x.travel(0, 0, 1), false);
        due("travel(1, 2, 1)", x.travel(1, 2, 1), false);
        due("travel(2, 1, 1)", x.travel(2, 1, 1), false);
        due("travel(-1, 1, 1)", x.travel(-1, 1, 1), false);
        due("travel(1, 0, -2)", x.travel(1, 0, -2), false);
        due("travel(1, 0, 61)", x.travel(1, 0, 61), false);
        due("never at first", holds(x, "seen==1", 1), false);
        due("travel(0, 1, 0)", x.travel(0, 1, 0), true);
        due("not the other way", holds(x, "seen==1", 1), false);
        due("travel(1, 0, 0)", x.travel(1, 0, 0), true);
        due("at once", holds(x, "seen==1", 1), true);
        due("travel(1, 0, 1)", x.travel(1, 0, 1), true);
        due("a day late", holds(x, "seen==1", 1), false);
        due("travel(1, 0, 60)", x.travel(1, 0, 60), true);
        due("travel(1, 0, 0) anew", x.travel(1, 0, 0), true);
        due("at once anew", holds(x, "seen==1", 1), true);
        due("travel(1, 0, NONE)", x.travel(1, 0, NONE), true);
        due("never again", holds(x, "seen==1", 1), false);
    }

    private static void promise11Witness() {
        CrescentCourt x = new CrescentCourt();
        due("no LAND", x.witness(0), NONE);
        x.land(0, 0);
        x.land(0, 0);
        due("witness(-1)", x.witness(-1), NONE);
        due("witness(2)", x.witness(2), NONE);
        for (int i = 0; i < 12; i++) {
            due("witness " + i, x.witness(i % 2), i);
        }
        due("a 13th", x.witness(0), NONE);
        due("WITNESSES", x.count(2), 12);
    }

    private static void promise12Report() {
        CrescentCourt x = Worlds.oneLand();
        due("no WITNESS", x.report(0, 0), NONE);
        x.witness(0);
        due("report(0, -1)", x.report(0, -1), NONE);
        due("report(0, 400)", x.report(0, 400), NONE);
        due("report(1, 0)", x.report(1, 0), NONE);
        due("report(-1, 0)", x.report(-1, 0), NONE);
        due("no FACTS", x.count(3), 0);
        due("report(0, 0)", x.report(0, 0), 0);
        due("report(0, 399)", x.report(0, 399), 1);
        due("the same again", x.report(0, 399), 2);
        for (int i = 3; i < 300; i++) {
            x.report(0, i);
        }
        due("300 FACTS", x.count(3), 300);
        due("a 301st", x.report(0, 0), NONE);
        due("a 301st, a CLOUD", x.cloud(0, 0), NONE);
        due("300 FACTS still", x.count(3), 300);
        due("the last one's verdict", x.verdict(299, 300), 1);
        due("no CLOUD came", x.verdict(0, 300), 1);
    }

    private static void promise13Cloud() {
        CrescentCourt x = Worlds.oneLand();
        due("cloud(0, -1)", x.cloud(0, -1), NONE);
        due("cloud(0, 400)", x.cloud(0, 400), NONE);
        due("cloud(1, 0)", x.cloud(1, 0), NONE);
        due("cloud(-1, 0)", x.cloud(-1, 0), NONE);
        due("no FACTS", x.count(3), 0);
        due("cloud(0, 0)", x.cloud(0, 0), 0);
        due("cloud(0, 29)", x.cloud(0, 29), 1);
        due("the same again", x.cloud(0, 29), 2);
        due("not KNOWN yet", holds(x, "cloud==1", 1), false);
        due("KNOWN", holds(x, "cloud==1", 2), true);
        due("KNOWN twice is 1", holds(x, "cloud==1", 3), true);
    }

    private static void promise14Age() {
        CrescentCourt x = new CrescentCourt();
        x.land(-12, 0);
        x.land(12, 0);
        due("no MOON", x.age(0, 399), NONE);
        x.moon(6);
        due("at the HOUR", x.age(0, 0), 0);
        due("SHIFT 12", x.age(1, 0), 24);
        x.moon(31);
        due("an HOUR ahead of the next", x.age(0, 1), 24);
        due("the latest one", x.age(1, 1), 23);
        due("the last EVENING", x.age(1, 399), 9606 - 31);
        due("age(0, 400)", x.age(0, 400), NONE);
        due("age(0, -1)", x.age(0, -1), NONE);
        due("age(2, 0)", x.age(2, 0), NONE);
        due("age(-1, 0)", x.age(-1, 0), NONE);

        CrescentCourt late = new CrescentCourt();
        late.land(-12, 0);
        late.moon(7);
        due("an HOUR ahead of it", late.age(0, 0), NONE);
    }

    private static void promise15Light() {
        CrescentCourt x = new CrescentCourt();
        x.moon(20);
        x.land(0, 0);
        due("AGE not known, MISSING", x.light(0, 0), 0);
        due("MISSING", x.light(0, 1), 1);
        x.table(0, 23);
        x.cell(0, 22, 2);
        due("AGE not known", x.light(0, 0), 0);
        due("the last cell", x.light(0, 1), 2);
        due("behind it", x.light(0, 2), 2);
        x.cell(0, 22, 1);
        due("changed", x.light(0, 2), 1);
        due("light(0, 400)", x.light(0, 400), NONE);
        due("light(0, -1)", x.light(0, -1), NONE);
        due("light(1, 0)", x.light(1, 0), NONE);
        due("light(-1, 0)", x.light(-1, 0), NONE);
    }

    private static void promise16Verdict() {
        CrescentCourt x = Worlds.growing();
        x.report(0, 0);
        x.report(0, 1);
        x.report(0, 2);
        x.cloud(0, 2);
        x.cloud(0, 0);
        due("FALSE", x.verdict(0, 1), 0);
        due("open", x.verdict(1, 2), 1);
        due("TRUE", x.verdict(2, 3), 2);
        due("a CLOUD made it open", x.verdict(2, 4), 1);
        due("as KNOWN ahead of it", x.verdict(2, 3), 2);
        due("FALSE under a CLOUD", x.verdict(0, 5), 0);
        due("a CLOUD", x.verdict(3, 4), NONE);
        due("not among the first n", x.verdict(2, 2), NONE);
        due("verdict(5, 5)", x.verdict(5, 5), NONE);
        due("verdict(-1, 5)", x.verdict(-1, 5), NONE);
        due("verdict(0, 0)", x.verdict(0, 0), NONE);
        due("verdict(0, -1)", x.verdict(0, -1), NONE);
        due("verdict(0, 6)", x.verdict(0, 6), NONE);
        due("verdict(0, MAX)", x.verdict(0, MAX), NONE);
        x.cell(0, 59, 0);
        due("by the TABLE of now", x.verdict(2, 3), 0);

        CrescentCourt lands = Worlds.growing();
        lands.land(0, 0);
        lands.witness(1);
        lands.report(2, 0);
        lands.cloud(1, 5);
        lands.report(0, 5);
        due("the WITNESS's LAND", lands.verdict(0, 1), 1);
        due("a CLOUD elsewhere", lands.verdict(2, 3), 2);
    }

    private static void promise17Worth() {
        CrescentCourt x = Worlds.growing();
        due("no REPORTS", x.worth(0, 0, 0), 2);
        x.report(0, 2);
        x.report(0, 2);
        x.report(0, 1);
        x.report(0, 0);
        x.report(1, 0);
        x.report(1, 0);
        x.report(1, 3);
        due("its own EVENING", x.worth(0, 2, 2), 2);
        due("two TRUE ones", x.worth(0, 3, 2), 4);
        due("an open one", x.worth(0, 3, 3), 4);
        due("a FALSE one", x.worth(0, 3, 4), 2);
        due("at least 0", x.worth(1, 3, 7), 0);
        due("at least 0 at the end alone", x.worth(1, 4, 7), 0);
        due("as KNOWN ahead", x.worth(1, 4, 5), 0);
        due("as KNOWN by none", x.worth(1, 4, 0), 2);
        x.cloud(0, 2);
        due("a CLOUD", x.worth(0, 3, 8), 0);
        due("ahead of the CLOUD", x.worth(0, 3, 7), 2);
        due("worth(2, 0, 0)", x.worth(2, 0, 0), NONE);
        due("worth(-1, 0, 0)", x.worth(-1, 0, 0), NONE);
        due("worth(0, 400, 0)", x.worth(0, 400, 0), NONE);
        due("worth(0, -1, 0)", x.worth(0, -1, 0), NONE);
        due("worth(0, 0, -1)", x.worth(0, 0, -1), NONE);
        due("worth(0, 0, 9)", x.worth(0, 0, 9), NONE);
        due("worth(0, 399, 8)", x.worth(0, 399, 8), 0);
    }

    private static void promise18Begins() {
        CrescentCourt x = Worlds.oneLand();
        x.land(0, 370);
        for (int month = 0; month <= 13; month++) {
            due("30 DAYS each", x.begins(0, month, 0), 30 * month);
        }
        due("begins(0, 14, 0)", x.begins(0, 14, 0), NONE);
        due("begins(0, 15, 0)", x.begins(0, 15, 0), NONE);
        due("begins(0, -1, 0)", x.begins(0, -1, 0), NONE);
        due("begins(2, 0, 0)", x.begins(2, 0, 0), NONE);
        due("begins(-1, 0, 0)", x.begins(-1, 0, 0), NONE);
        due("begins(0, 0, -1)", x.begins(0, 0, -1), NONE);
        due("begins(0, 0, 1)", x.begins(0, 0, 1), NONE);
        due("not by EVENING 399", x.begins(1, 1, 0), NONE);
        Checks.readText(x, 1, "begin if 1==1;");
        due("on EVENING 399", x.begins(1, 1, 0), 399);
        Checks.readText(x, 0, "begin if 1==1;");
        due("29 DAYS each", x.begins(0, 13, 0), 377);
        due("no 14th", x.begins(0, 14, 0), NONE);
        Checks.readText(x, 0, "begin if 1==1; not if month==2;");
        due("MONTH 1", x.begins(0, 1, 0), 29);
        due("a not RULE", x.begins(0, 2, 0), 59);
        due("MONTH 3", x.begins(0, 3, 0), 88);
        Checks.readText(x, 0, "not if 1==1;");
        due("not alone", x.begins(0, 1, 0), 30);
        Checks.readText(x, 0, "begin if 1==1");
        due("a FAULT changes nothing", x.by(0, 1, 0), -2);
        Checks.readText(x, 0, "begin if 1==2; begin if 1==1;");
        due("the second RULE", x.by(0, 1, 0), 1);
        for (int i = 0; i < 3; i++) {
            Checks.readText(x, 0, "begin if 1==2;");
            due("nothing is left of a text ahead", x.begins(0, 1, 0), 30);
        }
        Checks.readText(x, 0, times(11, "begin if 1==2;") + "begin if 1==1;");
        due("the twelfth RULE", x.by(0, 1, 0), 11);
    }

    private static void promise18Arithmetic() {
        CrescentCourt x = Worlds.oneLand();
        due("* ahead of +", holds(x, "2+3*4==14", 0), true);
        due("( )", holds(x, "(2+3)*4==20", 0), true);
        due("from the left", holds(x, "10-3-2==5", 0), true);
        due("- and +", holds(x, "10-3+2==9", 0), true);
        due("- ( )", holds(x, "10-(3-2)==9", 0), true);
        due("* from the left", holds(x, "2*3*4*(1+0)==24", 0), true);
        due("<", holds(x, "1<1", 0), false);
        due("<=", holds(x, "1<=1", 0), true);
        due("< of less than 0", holds(x, "0-1<0", 0), true);
        due("!=", holds(x, "1!=1", 0), false);
        due("and ahead of or", holds(x, "1==1 or 1==1 and 1==2", 0), true);
        due("and ahead of or, behind", holds(x, "1==2 and 1==2 or 1==1", 0), true);
        due("and", holds(x, "1==1 and 1==2", 0), false);
        due("or", holds(x, "1==2 or 2==3 or 3==3", 0), true);
        due("no or", holds(x, "1==2 or 2==3", 0), false);
        due("2 to the 32nd is 0", holds(x, "256*256*256*256==0", 0), true);
        due("2 to the 31st is below 0", holds(x, "256*256*256*128<0", 0), true);
        due("+ wraps", holds(x, "256*256*256*128-1+1<0 and 0<256*256*256*128-1", 0), true);
        due("deep", holds(x, "1*(1+2*(1+2*(1+2*(1+2*(1+2*(1+2))))))==127", 0), true);
        due("deep on the right", holds(x,
                "1==2 or 1==1 and 9-7==1+1*(0+1*(0+1*(0+1*(0+1*(0+1*(0+1*1))))))", 0), true);
    }

    private static void promise18Vars() {
        CrescentCourt x = Worlds.growing();
        x.land(0, 0);
        int far = x.witness(1);
        x.travel(1, 0, 0);
        x.report(0, 10);
        x.report(0, 29);
        x.report(0, 29);
        x.report(1, 0);
        x.report(1, 29);
        x.report(far, 29);
        x.report(far, 28);
        due("days", holds(x, "days==29", 7), true);
        due("month", holds(x, "month==1", 7), true);
        due("seen, each once", holds(x, "seen==3", 7), true);
        due("seen by 3", holds(x, "seen==1", 3), true);
        due("seen by 1", holds(x, "seen==0", 1), true);
        due("worth: 3 + 0 + 2", holds(x, "worth==5", 7), true);
        due("best", holds(x, "best==3", 7), true);
        due("best without", holds(x, "best==0 and worth==0", 0), true);
        due("light", holds(x, "light==2", 7), true);
        due("no cloud", holds(x, "cloud==0", 7), true);
        x.cloud(0, 29);
        x.cloud(0, 10);
        due("cloud", holds(x, "cloud==1 and seen==3", 8), true);
        due("worth under a CLOUD", holds(x, "worth==4 and best==2", 9), true);
        x.table(1, 1);
        due("FALSE ones are not HEARD", holds(x, "seen==2", 7), true);
        x.table(0, 1);
        due("light 0", holds(x, "light==0 and seen==0", 7), true);
    }

    private static void promise18Others() {
        CrescentCourt x = new CrescentCourt();
        x.land(0, 0);
        x.land(0, 0);
        x.land(0, 0);
        Checks.readText(x, 0, "begin if 1==1;");
        Checks.readText(x, 1, "begin if others==1;");
        Checks.readText(x, 2, "begin if others==2;");
        due("no news", x.begins(1, 1, 0), 30);
        x.travel(0, 1, 0);
        due("a LAND ahead, on the same EVENING", x.begins(1, 1, 0), 29);
        x.travel(0, 2, 0);
        due("one of two", x.begins(2, 1, 0), 30);
        x.travel(1, 2, 0);
        due("both", x.begins(2, 1, 0), 29);
        x.travel(0, 1, 1);
        due("news is late", x.begins(1, 1, 0), 30);

        CrescentCourt later = new CrescentCourt();
        later.land(0, 0);
        later.land(0, 0);
        later.travel(1, 0, 0);
        Checks.readText(later, 1, "begin if 1==1;");
        Checks.readText(later, 0, "begin if others==1;");
        due("a LAND behind has not begun yet", later.begins(0, 1, 0), 30);
        Checks.readText(later, 0, "back if others==1;");
        due("set back by it", later.begins(0, 1, 0), 29);
        Checks.readText(later, 1, "");
        due("up to e alone", later.begins(0, 1, 0), 30);

        CrescentCourt old = new CrescentCourt();
        old.land(0, 40);
        old.land(0, 0);
        old.travel(1, 0, 39);
        Checks.readText(old, 0, "begin if others==1;");
        due("a MONTH of long ago", old.begins(0, 1, 0), 69);
        old.travel(1, 0, 40);
        due("news of it is late", old.begins(0, 1, 0), 70);
    }

    private static void promise18SetBack() {
        CrescentCourt x = Worlds.oneLand();
        x.land(0, 0);
        x.witness(1);
        x.report(0, 29);
        x.travel(1, 0, 2);
        Checks.readText(x, 0, "back if seen==1 and days==1 and month==1;");
        due("on the first day", x.begins(0, 1, 1), 29);
        due("the next one", x.begins(0, 2, 1), 59);
        x.travel(1, 0, 1);
        due("days 1 alone: there already", x.begins(0, 1, 1), 29);
        x.travel(1, 0, 3);
        due("days 2", x.begins(0, 1, 1), 30);
        Checks.readText(x, 0, "back if seen==1;");
        x.travel(1, 0, 11);
        due("on EVENING 40", x.begins(0, 1, 1), 29);
        x.travel(1, 0, 12);
        due("not on EVENING 41", x.begins(0, 1, 1), 30);
        Checks.readText(x, 0, "back if 1==1;");
        due("each by one", x.begins(0, 1, 1), 29);
        due("once", x.begins(0, 2, 1), 58);
        Checks.readText(x, 0, "back if 1==1; begin if 1==1;");
        due("29 DAYS are not set back", x.begins(0, 2, 1), 58);
        due("their RULE", x.by(0, 2, 1), 1);
        Checks.readText(x, 0, "back if 1==1; not if 1==1;");
        due("a not RULE is not asked", x.begins(0, 1, 1), 29);

        CrescentCourt asked = Worlds.oneLand();
        asked.table(0, 60);
        asked.cell(0, 59, 1);
        asked.cloud(0, 29);
        Checks.readText(asked, 0, "back if cloud==1 and days==4 and light==1;");
        due("asked for the EVENING ahead", asked.begins(0, 1, 1), 29);
        due("as KNOWN by none", asked.begins(0, 1, 0), 30);
        due("MONTH 2", asked.by(0, 2, 1), -2);

        CrescentCourt worth = Worlds.oneLand();
        worth.land(0, 0);
        worth.table(1, 1);
        worth.cell(1, 0, 2);
        worth.witness(1);
        worth.report(0, 29);
        worth.report(0, 30);
        worth.report(0, 31);
        worth.travel(1, 0, 0);
        Checks.readText(worth, 0, "back if worth==5 and best==5;");
        due("WORTH on EVENING d", worth.begins(0, 1, 3), 29);
        due("by then, not sooner", worth.heard(0, 1, 0, 3), 0);
    }

    /** What was answered ahead of a change holds nothing back. */
    private static void promise18AskedAgain() {
        CrescentCourt x = new CrescentCourt();
        x.land(0, 0);
        x.witness(0);
        x.report(0, 29);
        Checks.readText(x, 0, "begin if seen==1 and light!=2; back if others==1;");
        due("no MOON: a FALSE one", x.begins(0, 1, 1), 30);
        due("its verdict", x.verdict(0, 1), 0);
        x.moon(0);
        due("behind moon()", x.begins(0, 1, 1), 29);
        due("behind moon(): its verdict", x.verdict(0, 1), 1);
        x.table(0, 3);
        due("behind table()", x.begins(0, 1, 1), 30);
        x.cell(0, 2, 1);
        due("behind cell()", x.begins(0, 1, 1), 29);
        x.cell(0, 2, 2);
        due("behind cell() again", x.begins(0, 1, 1), 30);
        due("its verdict, TRUE", x.verdict(0, 1), 2);
        due("its WORTH", x.worth(0, 30, 1), 3);
        x.land(0, 29);
        due("behind land()", x.begins(1, 0, 1), 29);
        due("its MONTH 1", x.begins(1, 1, 1), 59);
        x.land(0, 0);
        Checks.readText(x, 2, "begin if 1==1;");
        due("no news", x.begins(0, 1, 1), 30);
        x.travel(2, 0, 5);
        due("behind travel()", x.begins(0, 1, 1), 29);
        x.cloud(0, 29);
        due("behind cloud()", x.verdict(0, 2), 1);
        due("ahead of it", x.verdict(0, 1), 2);
        x.witness(2);
        due("behind witness()", x.worth(1, 9, 1), 2);
        x.report(1, 29);
        due("behind report()", x.verdict(2, 3), 1);
        x.read(0);
        due("behind read()", x.begins(0, 1, 3), 30);
    }

    private static void promise19By() {
        CrescentCourt x = Worlds.oneLand();
        Checks.readText(x, 0, "not if month==3; begin if month==9; begin if month==1;"
                + "back if month==9; begin if 1==1 and month!=4; back if month==3; back if 1==1;");
        due("by(0, 0, 0)", x.by(0, 0, 0), NONE);
        due("the first begin RULE that held", x.by(0, 1, 0), 2);
        due("another", x.by(0, 2, 0), 4);
        due("the first back RULE that set it back", x.by(0, 3, 0), 5);
        due("another back", x.by(0, 4, 0), 6);
        due("the first of two", x.by(0, 9, 0), 1);
        due("it did not begin", x.by(0, 14, 0), NONE);
        due("by(0, 15, 0)", x.by(0, 15, 0), NONE);
        due("by(0, -1, 0)", x.by(0, -1, 0), NONE);
        due("by(1, 1, 0)", x.by(1, 1, 0), NONE);
        due("by(-1, 1, 0)", x.by(-1, 1, 0), NONE);
        due("by(0, 1, 1)", x.by(0, 1, 1), NONE);
        due("by(0, 1, -1)", x.by(0, 1, -1), NONE);
        x.read(0);
        due("by 30 DAYS", x.by(0, 1, 0), -2);
    }

    private static void promise20Heard() {
        CrescentCourt x = Worlds.oneLand();
        x.land(0, 0);
        x.witness(0);
        x.witness(1);
        x.travel(1, 0, 3);
        x.report(1, 29);
        x.cloud(0, 29);
        x.report(0, 29);
        x.report(0, 30);
        x.report(0, 29);
        Checks.readText(x, 0, "begin if seen==1;");
        due("MONTH 1", x.begins(0, 1, 5), 29);
        due("the first", x.heard(0, 1, 0, 5), 2);
        due("the second", x.heard(0, 1, 1, 5), 4);
        due("no more", x.heard(0, 1, 2, 5), NONE);
        due("as KNOWN by 4", x.heard(0, 1, 1, 4), NONE);
        Checks.readText(x, 0, "back if seen==2;");
        due("set back", x.begins(0, 1, 5), 29);
        due("HEARD then: first", x.heard(0, 1, 0, 5), 0);
        due("HEARD then: second", x.heard(0, 1, 1, 5), 2);
        due("HEARD then: third", x.heard(0, 1, 2, 5), 4);
        Checks.readText(x, 0, "back if days==1;");
        due("sooner set back", x.heard(0, 1, 0, 5), 2);
        x.read(0);
        due("by 30 DAYS", x.begins(0, 1, 5), 30);
        due("HEARD on that EVENING, asked for it", x.heard(0, 1, 0, 5), 3);
        due("of the other verdicts between", x.verdict(0, 1), 1);
        due("the same again", x.heard(0, 1, 0, 5), 3);
        due("heard(0, 1, -1, 5)", x.heard(0, 1, -1, 5), NONE);
        due("heard(0, 1, MIN, 5)", x.heard(0, 1, MIN, 5), NONE);
        due("heard(0, 1, MAX, 5)", x.heard(0, 1, MAX, 5), NONE);
        due("heard(0, 0, 0, 5)", x.heard(0, 0, 0, 5), NONE);
        due("heard(0, 14, 0, 5)", x.heard(0, 14, 0, 5), NONE);
        due("heard(0, 15, 0, 5)", x.heard(0, 15, 0, 5), NONE);
        due("heard(2, 1, 0, 5)", x.heard(2, 1, 0, 5), NONE);
        due("heard(-1, 1, 0, 5)", x.heard(-1, 1, 0, 5), NONE);
        due("heard(0, 1, 0, 6)", x.heard(0, 1, 0, 6), NONE);
        due("heard(0, 1, 0, -1)", x.heard(0, 1, 0, -1), NONE);
        x.table(0, 1);
        due("FALSE ones are not HEARD", x.heard(0, 1, 0, 5), NONE);
    }

    private static void promise21Date() {
        CrescentCourt x = new CrescentCourt();
        x.land(0, 5);
        due("ahead of MONTH 0", x.date(0, 4, 0), NONE);
        due("its first day", x.date(0, 5, 0), 1);
        due("its last day", x.date(0, 34, 0), 30);
        due("MONTH 1", x.date(0, 35, 0), 101);
        due("EVENING 399", x.date(0, 399, 0), 1305);
        Checks.readText(x, 0, "begin if 1==1;");
        due("29 days", x.date(0, 33, 0), 29);
        due("then MONTH 1", x.date(0, 34, 0), 101);
        Checks.readText(x, 0, "back if days==9;");
        due("set back, by begins()", x.date(0, 34, 0), 101);
        due("the day behind", x.date(0, 35, 0), 102);
        due("date(0, 400, 0)", x.date(0, 400, 0), NONE);
        due("date(0, -1, 0)", x.date(0, -1, 0), NONE);
        due("date(1, 0, 0)", x.date(1, 0, 0), NONE);
        due("date(-1, 0, 0)", x.date(-1, 0, 0), NONE);
        due("date(0, 9, 1)", x.date(0, 9, 1), NONE);
        due("date(0, 9, -1)", x.date(0, 9, -1), NONE);
    }

    private static void promise22Turn() {
        CrescentCourt x = new CrescentCourt();
        x.land(0, 0);
        x.land(0, 10);
        Checks.readText(x, 0, "begin if 1==1;");
        due("the last day", x.turn(0, 0, 29, 1, 0), 19);
        due("no day 30", x.turn(0, 0, 30, 1, 0), NONE);
        due("a day 30", x.turn(1, 0, 30, 0, 0), 111);
        due("ahead of MONTH 0", x.turn(0, 0, 10, 1, 0), NONE);
        due("on its first EVENING", x.turn(0, 0, 11, 1, 0), 1);
        due("its own LAND", x.turn(0, 3, 7, 0, 0), 307);
        due("day 1", x.turn(0, 1, 1, 1, 0), 20);
        due("EVENING 399", x.turn(0, 13, 23, 0, 0), 1323);
        due("EVENING 400", x.turn(0, 13, 24, 0, 0), NONE);
        due("no MONTH 14", x.turn(0, 14, 1, 1, 0), NONE);
        due("day 0", x.turn(0, 1, 0, 1, 0), NONE);
        due("day 31", x.turn(1, 1, 31, 0, 0), NONE);
        due("day MAX", x.turn(1, 1, MAX, 0, 0), NONE);
        due("MONTH 15", x.turn(0, 15, 1, 1, 0), NONE);
        due("MONTH -1", x.turn(0, -1, 1, 1, 0), NONE);
        due("from 2", x.turn(2, 0, 1, 1, 0), NONE);
        due("to 2", x.turn(0, 0, 1, 2, 0), NONE);
        due("to -1", x.turn(0, 0, 1, -1, 0), NONE);
        due("by 1", x.turn(0, 0, 11, 1, 1), NONE);
        due("by -1", x.turn(0, 0, 11, 1, -1), NONE);
    }

    private static void promise23Unlike() {
        CrescentCourt x = new CrescentCourt();
        x.land(0, 10);
        x.land(0, 10);
        x.land(0, 12);
        Checks.readText(x, 0, "begin if month==1;");
        due("both ahead", x.unlike(0, 1, 0, 9, 0), 0);
        due("one ahead", x.unlike(0, 2, 0, 11, 0), 2);
        due("the same MONTH 0", x.unlike(0, 1, 0, 38, 0), 0);
        due("from then on", x.unlike(0, 1, 0, 399, 0), 361);
        due("one EVENING", x.unlike(1, 0, 39, 39, 0), 1);
        due("one and the same", x.unlike(0, 0, 0, 399, 0), 0);
        due("a above b", x.unlike(0, 1, 5, 4, 0), NONE);
        due("a -1", x.unlike(0, 1, -1, 4, 0), NONE);
        due("b 400", x.unlike(0, 1, 0, 400, 0), NONE);
        due("a 400", x.unlike(0, 1, 400, 400, 0), NONE);
        due("one 3", x.unlike(3, 1, 0, 4, 0), NONE);
        due("other 3", x.unlike(0, 3, 0, 4, 0), NONE);
        due("other -1", x.unlike(0, -1, 0, 4, 0), NONE);
        due("by 1", x.unlike(0, 1, 0, 4, 1), NONE);
        due("by -1", x.unlike(0, 1, 0, 4, -1), NONE);
    }

    private static void promise24Changed() {
        CrescentCourt x = Worlds.oneLand();
        x.witness(0);
        x.report(0, 59);
        x.report(0, 29);
        Checks.readText(x, 0, "begin if seen==1;");
        due("MONTH 2", x.changed(0, 0, 1), 2);
        due("the other way", x.changed(0, 1, 0), 2);
        due("MONTH 1", x.changed(0, 1, 2), 1);
        due("MONTH 1, over both", x.changed(0, 0, 2), 1);
        due("none", x.changed(0, 1, 1), NONE);
        due("changed(1, 0, 1)", x.changed(1, 0, 1), NONE);
        due("changed(-1, 0, 1)", x.changed(-1, 0, 1), NONE);
        due("changed(0, 0, 3)", x.changed(0, 0, 3), NONE);
        due("changed(0, 3, 0)", x.changed(0, 3, 0), NONE);
        due("changed(0, -1, 1)", x.changed(0, -1, 1), NONE);
        due("changed(0, 1, -1)", x.changed(0, 1, -1), NONE);

        CrescentCourt late = new CrescentCourt();
        late.moon(0);
        late.land(0, 370);
        late.witness(0);
        late.report(0, 399);
        Checks.readText(late, 0, "begin if seen==1;");
        due("on none in one of both", late.changed(0, 0, 1), 1);
        due("on none in the other", late.changed(0, 1, 0), 1);
    }

    private static void promise25Count() {
        CrescentCourt x = Worlds.oneLand();
        x.land(0, 0);
        x.land(0, 0);
        x.moon(7);
        for (int i = 0; i < 4; i++) {
            x.witness(0);
        }
        for (int i = 0; i < 5; i++) {
            x.cloud(0, 0);
        }
        x.report(0, 0);
        Checks.readText(x, 0, "begin if 1==1; not if 1==1;");
        Checks.readText(x, 2, "begin if 1==1; back if 1==1; not if 1==1; not if 2==2;");
        Checks.feedText(x, "1234567");
        due("LANDS", x.count(0), 3);
        due("MOONS", x.count(1), 2);
        due("WITNESSES", x.count(2), 4);
        due("FACTS", x.count(3), 6);
        due("RULES of all LANDS", x.count(4), 6);
        due("bytes on the tape", x.count(5), 7);
        due("count(6)", x.count(6), NONE);
        due("count(-1)", x.count(-1), NONE);
        due("count(MIN)", x.count(MIN), NONE);
        x.back(7);
        x.read(2);
        due("RULES go with their text", x.count(4), 2);
    }
}
