/** The first part of the document's Terms: for each sentence that names an edge a test of its own. */
public final class TermEdgesTest {
    private static final int NONE = CrescentCourt.NONE;
    private static final int MAX = Integer.MAX_VALUE;
    private static final int MIN = Integer.MIN_VALUE;
    private static final Checks checks = new Checks();

    public static void main(String[] args) {
        eveningsFrom0();
        eveningsTo399();
        eveningsOutside();
        moonsFrom0To13();
        hoursFrom0To9999();
        moonsLaterThanTheOneAhead();
        moonsNotTold();
        landsSixAtMost();
        shiftsFromMinus12To12();
        ageByItsSum();
        ageOfTheLatestMoonByThen();
        ageNotKnown();
        tablesMissingAtFirst();
        tablesOf1To60Cells();
        cellsOf0To2();
        lightIsTheCellOfTheAge();
        lightBehindTheRow();
        lightOfAMissingRow();
        lightOfAnAgeNotKnown();
        travelNeverAtFirst();
        travelOf0Days();
        travelOf60Days();
        travelIsOneWay();
        travelInItsOwnLand();
        witnessesTwelveAtMost();
        witnessesOfALandEach();
        factsFrom0To299();
        knownAreTheFirstN();
        knownByNoneAndByAll();
        reportsAreFalseByLight0();
        reportsAreTrueByLight2WithoutCloud();
        reportsAreOpenElse();
        worthIs2AtFirst();
        worthOfTrueAndFalseOnes();
        worthOfEveningsAhead();
        worthAtLeast0();
        checks.end();
    }

    private static void due(String call, int got, int want) {
        checks.due(call, got, want);
    }

    private static void due(String call, boolean got, boolean want) {
        checks.due(call, got, want);
    }

    /** Every call that takes an EVENING; -1 for those that refuse it. */
    private static void dueOfEvening(int evening, boolean isThere) {
        CrescentCourt x = Worlds.growing();
        due("land(0, " + evening + ")", x.land(0, evening) != NONE, isThere);
        due("report(0, " + evening + ")", x.report(0, evening) != NONE, isThere);
        due("cloud(0, " + evening + ")", x.cloud(0, evening) != NONE, isThere);
        due("age(0, " + evening + ")", x.age(0, evening) != NONE, isThere);
        due("light(0, " + evening + ")", x.light(0, evening) != NONE, isThere);
        due("worth(0, " + evening + ", 0)", x.worth(0, evening, 0) != NONE, isThere);
        due("date(0, " + evening + ", 0)", x.date(0, evening, 0) != NONE, isThere);
        due("unlike from " + evening, x.unlike(0, 0, evening, 399, 0) != NONE, isThere);
        due("unlike to " + evening, x.unlike(0, 0, 0, evening, 0) != NONE, isThere);
        due("LANDS", x.count(0), isThere ? 2 : 1);
        due("FACTS", x.count(3), isThere ? 2 : 0);
    }

    private static void eveningsFrom0() {
        checks.sentence("EVENINGS go from 0 to 399.");
        dueOfEvening(0, true);
        dueOfEvening(-1, false);
    }

    private static void eveningsTo399() {
        checks.sentence("EVENINGS go from 0 to 399.");
        dueOfEvening(399, true);
        dueOfEvening(400, false);
    }

    private static void eveningsOutside() {
        checks.sentence("EVENINGS go from 0 to 399.");
        dueOfEvening(MIN, false);
        dueOfEvening(MAX, false);
        dueOfEvening(1 << 16, false);
        dueOfEvening(-400, false);
    }

    private static void moonsFrom0To13() {
        checks.sentence("MOONS, 0 .. 13, are NEW at an HOUR each");
        CrescentCourt x = new CrescentCourt();
        x.land(0, 0);
        for (int moon = 0; moon <= 13; moon++) {
            due("moon " + moon, x.moon(24 * moon + 18), moon);
            due("it counts", x.age(0, 399), 24 * (399 - moon));
        }
        due("a 15th", x.moon(9000), NONE);
        due("it does not count", x.age(0, 399), 24 * (399 - 13));
        due("MOONS", x.count(1), 14);
    }

    private static void hoursFrom0To9999() {
        checks.sentence("an HOUR each (0 .. 9999;");
        CrescentCourt x = new CrescentCourt();
        x.land(0, 0);
        due("moon(-1)", x.moon(-1), NONE);
        due("moon(MIN)", x.moon(MIN), NONE);
        due("moon(0)", x.moon(0), 0);
        due("its AGE", x.age(0, 0), 18);
        due("moon(10000)", x.moon(10000), NONE);
        due("moon(MAX)", x.moon(MAX), NONE);
        due("moon(9999)", x.moon(9999), 1);
        due("MOONS", x.count(1), 2);
    }

    private static void moonsLaterThanTheOneAhead() {
        checks.sentence("told, each later than the one ahead;");
        CrescentCourt x = new CrescentCourt();
        due("moon(500)", x.moon(500), 0);
        due("moon(499)", x.moon(499), NONE);
        due("moon(500) again", x.moon(500), NONE);
        due("moon(0)", x.moon(0), NONE);
        due("moon(501)", x.moon(501), 1);
        due("moon(501) again", x.moon(501), NONE);
        due("MOONS", x.count(1), 2);
    }

    private static void moonsNotTold() {
        checks.sentence("not told: never).");
        CrescentCourt x = new CrescentCourt();
        x.land(0, 0);
        due("AGE without a MOON", x.age(0, 399), NONE);
        x.moon(18);
        due("AGE by the only one", x.age(0, 399), 24 * 399);
    }

    private static void landsSixAtMost() {
        checks.sentence("LANDS, 6 at most, numbered from 0 on:");
        CrescentCourt x = new CrescentCourt();
        due("no LAND 0 yet", x.begins(0, 0, 0), NONE);
        for (int land = 0; land < 6; land++) {
            due("land " + land, x.land(land, 10 * land), land);
            due("its MONTH 0", x.begins(land, 0, 0), 10 * land);
            due("none behind it", x.begins(land + 1, 0, 0), NONE);
        }
        due("a 7th", x.land(0, 0), NONE);
        due("LANDS", x.count(0), 6);
        due("no LAND 6", x.begins(6, 0, 0), NONE);
    }

    private static void shiftsFromMinus12To12() {
        checks.sentence("a SHIFT (-12 .. 12).");
        CrescentCourt x = new CrescentCourt();
        x.moon(0);
        due("land(-13, 0)", x.land(-13, 0), NONE);
        due("land(-12, 0)", x.land(-12, 0), 0);
        due("land(12, 0)", x.land(12, 0), 1);
        due("land(13, 0)", x.land(13, 0), NONE);
        due("land(MIN, 0)", x.land(MIN, 0), NONE);
        due("land(MAX, 0)", x.land(MAX, 0), NONE);
        due("LANDS", x.count(0), 2);
        due("AGE under SHIFT -12", x.age(0, 0), 6);
        due("AGE under SHIFT 12", x.age(1, 0), 30);
    }

    private static void ageByItsSum() {
        checks.sentence("24 * d + 18 + SHIFT less the HOUR of the latest moon");
        CrescentCourt x = new CrescentCourt();
        x.moon(1);
        x.land(0, 0);
        x.land(7, 0);
        x.land(-7, 0);
        due("EVENING 0", x.age(0, 0), 17);
        due("EVENING 1", x.age(0, 1), 41);
        due("EVENING 399", x.age(0, 399), 9593);
        due("SHIFT 7", x.age(1, 1), 48);
        due("SHIFT -7", x.age(2, 1), 34);
    }

    private static void ageOfTheLatestMoonByThen() {
        checks.sentence("the latest moon that is NEW by then");
        CrescentCourt x = new CrescentCourt();
        x.land(0, 0);
        x.land(-1, 0);
        x.land(12, 0);
        x.moon(10);
        x.moon(42);
        x.moon(43);
        due("at the very HOUR", x.age(0, 1), 0);
        due("an HOUR ahead of it", x.age(1, 1), 31);
        due("behind all", x.age(2, 1), 11);
        x.moon(9606);
        due("at the last HOUR of all", x.age(2, 399), 0);
        due("ahead of it", x.age(0, 399), 9594 - 43);
        x.moon(9607);
        due("a MOON that is NEW too late", x.age(2, 399), 0);
    }

    private static void ageNotKnown() {
        checks.sentence("(none: the AGE is -1, not known).");
        CrescentCourt x = new CrescentCourt();
        x.land(0, 0);
        due("no MOON", x.age(0, 0), NONE);
        x.moon(19);
        due("an HOUR too late", x.age(0, 0), NONE);
        due("the next EVENING", x.age(0, 1), 23);
        x.land(1, 0);
        due("by the SHIFT", x.age(1, 0), 0);
    }

    private static void tablesMissingAtFirst() {
        checks.sentence("each LAND has a row of bytes, MISSING at first,");
        CrescentCourt x = Worlds.lands(6);
        for (int land = 0; land < 6; land++) {
            due("LIGHT " + land, x.light(land, 0), 1);
            due("no cell " + land, x.cell(land, 0, 2), false);
        }
        due("table(3, 1)", x.table(3, 1), true);
        due("a row", x.light(3, 0), 0);
        due("another LAND's is MISSING still", x.light(2, 0), 1);
    }

    private static void tablesOf1To60Cells() {
        checks.sentence("or of 1 .. 60 cells, by AGE in HOURS:");
        CrescentCourt x = Worlds.oneLand();
        due("no row of 0", x.table(0, 0), false);
        due("no row of 61", x.table(0, 61), false);
        due("MISSING still", x.light(0, 0), 1);
        due("a row of 1", x.table(0, 1), true);
        due("cell 0 of it", x.cell(0, 0, 2), true);
        due("no cell 1", x.cell(0, 1, 2), false);
        due("its LIGHT", x.light(0, 0), 2);
        due("a row of 60", x.table(0, 60), true);
        due("cell 59 of it", x.cell(0, 59, 2), true);
        due("no cell 60", x.cell(0, 60, 2), false);
    }

    private static void cellsOf0To2() {
        checks.sentence("0 it can't be seen, 1 maybe, 2 surely.");
        CrescentCourt x = Worlds.oneLand();
        x.witness(0);
        x.report(0, 5);
        x.table(0, 1);
        for (int v = 0; v <= 2; v++) {
            due("cell " + v, x.cell(0, 0, v), true);
            due("LIGHT " + v, x.light(0, 5), v);
            due("its verdict", x.verdict(0, 1), v);
        }
        due("cell -1", x.cell(0, 0, -1), false);
        due("cell 3", x.cell(0, 0, 3), false);
        due("cell 256", x.cell(0, 0, 256), false);
        due("LIGHT 2 still", x.light(0, 5), 2);
    }

    private static void lightIsTheCellOfTheAge() {
        checks.sentence("LIGHT: the cell;");
        CrescentCourt x = new CrescentCourt();
        x.moon(18);
        x.land(0, 0);
        x.land(1, 0);
        x.land(-1, 1);
        for (int land = 0; land < 3; land++) {
            x.table(land, 60);
            x.cell(land, 0, 1);
            x.cell(land, 1, 2);
            x.cell(land, 24, 2);
            x.cell(land, 25, 1);
        }
        due("AGE 0", x.light(0, 0), 1);
        due("AGE 1", x.light(1, 0), 2);
        due("AGE 23", x.light(2, 1), 0);
        due("AGE 24", x.light(0, 1), 2);
        due("AGE 25", x.light(1, 1), 1);
    }

    private static void lightBehindTheRow() {
        checks.sentence("of an AGE behind the row its last one;");
        CrescentCourt x = Worlds.oneLand();
        x.table(0, 18);
        x.cell(0, 17, 2);
        due("AGE 18 of 18 cells", x.light(0, 0), 2);
        due("AGE 9594 of 18 cells", x.light(0, 399), 2);
        x.table(0, 19);
        x.cell(0, 17, 2);
        x.cell(0, 18, 1);
        due("AGE 18 of 19 cells", x.light(0, 0), 1);
        x.table(0, 20);
        x.cell(0, 18, 1);
        x.cell(0, 19, 2);
        due("AGE 18 of 20 cells", x.light(0, 0), 1);
        due("AGE 42 of 20 cells", x.light(0, 1), 2);
        x.table(0, 60);
        x.cell(0, 59, 2);
        due("AGE 42 of 60 cells", x.light(0, 1), 0);
        due("AGE 66 of 60 cells", x.light(0, 2), 2);
    }

    private static void lightOfAMissingRow() {
        checks.sentence("1 if the row is MISSING;");
        CrescentCourt x = Worlds.oneLand();
        due("at first", x.light(0, 0), 1);
        due("on EVENING 399", x.light(0, 399), 1);
        x.table(0, 30);
        x.cell(0, 29, 2);
        x.table(0, NONE);
        due("MISSING again", x.light(0, 399), 1);
    }

    private static void lightOfAnAgeNotKnown() {
        checks.sentence("0 if the AGE is not known.");
        CrescentCourt x = new CrescentCourt();
        x.land(0, 0);
        due("MISSING and not known", x.light(0, 5), 0);
        x.table(0, 1);
        x.cell(0, 0, 2);
        due("a row of 2 and not known", x.light(0, 5), 0);
        x.moon(24 * 5 + 19);
        due("an HOUR too early", x.light(0, 5), 0);
        due("known", x.light(0, 6), 2);
    }

    /** On EVENING d a LAND that began MONTH 0 then less 29 asks whether another's MONTH 1 is known. */
    private static boolean isKnownBy(int evening, int days) {
        CrescentCourt x = new CrescentCourt();
        x.land(0, 0);
        x.land(0, evening - 29);
        Checks.readText(x, 1, "begin if others==1;");
        if (days != NONE) {
            due("travel(0, 1, " + days + ")", x.travel(0, 1, days), true);
        }
        return x.begins(1, 1, 0) == evening;
    }

    private static void travelNeverAtFirst() {
        checks.sentence("news goes from a LAND to another one in so many days (0 .. 60), or never"
                + " (so at first);");
        due("never", isKnownBy(399, NONE), false);
        CrescentCourt x = Worlds.lands(2);
        x.witness(1);
        x.report(0, 29);
        Checks.readText(x, 0, "begin if seen==1; back if seen==1;");
        due("a REPORT", x.begins(0, 1, 1), 30);
        x.travel(1, 0, 0);
        due("told", x.begins(0, 1, 1), 29);
        x.travel(1, 0, NONE);
        due("never again", x.begins(0, 1, 1), 30);
    }

    private static void travelOf0Days() {
        checks.sentence("in so many days (0 .. 60)");
        due("0 days, the EVENING itself", isKnownBy(30, 0), true);
        due("1 day, the EVENING itself", isKnownBy(30, 1), false);
        due("1 day, the next EVENING", isKnownBy(31, 1), true);
        CrescentCourt x = Worlds.lands(2);
        due("-2 days", x.travel(0, 1, -2), false);
        due("MIN days", x.travel(0, 1, MIN), false);
    }

    private static void travelOf60Days() {
        checks.sentence("in so many days (0 .. 60)");
        due("60 days, EVENING 89", isKnownBy(89, 60), false);
        due("60 days, EVENING 90", isKnownBy(90, 60), true);
        CrescentCourt x = Worlds.lands(2);
        due("61 days", x.travel(0, 1, 61), false);
        due("MAX days", x.travel(0, 1, MAX), false);
    }

    private static void travelIsOneWay() {
        checks.sentence("TRAVEL: news goes from a LAND to another one");
        CrescentCourt x = Worlds.lands(3);
        x.witness(1);
        x.report(0, 29);
        x.travel(0, 1, 0);
        x.travel(2, 0, 0);
        x.travel(1, 2, 0);
        Checks.readText(x, 0, "begin if seen==1;");
        Checks.readText(x, 2, "begin if seen==1;");
        due("not the other way, nor through a third LAND", x.begins(0, 1, 1), 30);
        due("from 1 to 2", x.begins(2, 1, 1), 29);
    }

    private static void travelInItsOwnLand() {
        checks.sentence("in its own LAND at once.");
        CrescentCourt x = Worlds.lands(6);
        for (int land = 0; land < 6; land++) {
            x.witness(land);
            x.report(land, 29);
            Checks.readText(x, land, "begin if seen==1;");
            due("LAND " + land, x.begins(land, 1, land + 1), 29);
        }
    }

    private static void witnessesTwelveAtMost() {
        checks.sentence("WITNESSES, 12 at most:");
        CrescentCourt x = Worlds.oneLand();
        due("no WITNESS 0 yet", x.worth(0, 0, 0), NONE);
        for (int witness = 0; witness < 12; witness++) {
            due("witness " + witness, x.witness(0), witness);
            due("its WORTH", x.worth(witness, 0, 0), 2);
            due("none behind it", x.worth(witness + 1, 0, 0), NONE);
        }
        due("a 13th", x.witness(0), NONE);
        due("WITNESSES", x.count(2), 12);
        due("no WITNESS 12", x.report(12, 0), NONE);
        due("WITNESS 11", x.report(11, 29), 0);
        for (int witness = 0; witness < 11; witness++) {
            x.report(witness, 29);
        }
        Checks.readText(x, 0, "begin if seen==12 and worth==24;");
        due("all twelve are HEARD", x.begins(0, 1, 12), 29);
    }

    private static void witnessesOfALandEach() {
        checks.sentence("each of a LAND.");
        CrescentCourt x = Worlds.lands(3);
        x.table(1, 1);
        x.table(2, 1);
        x.cell(2, 0, 2);
        for (int land = 2; land >= 0; land--) {
            x.witness(land);
            x.report(2 - land, 7);
        }
        due("of LAND 2", x.verdict(0, 3), 2);
        due("of LAND 1", x.verdict(1, 3), 0);
        due("of LAND 0", x.verdict(2, 3), 1);
    }

    private static void factsFrom0To299() {
        checks.sentence("FACTS, numbered from 0 on, 300 at most;");
        CrescentCourt x = Worlds.oneLand();
        x.witness(0);
        for (int fact = 0; fact < 300; fact++) {
            int number = fact % 2 == 0 ? x.report(0, fact) : x.cloud(0, fact);
            due("fact " + fact, number, fact);
        }
        due("a 301st, a REPORT", x.report(0, 0), NONE);
        due("a 301st, a CLOUD", x.cloud(0, 0), NONE);
        due("FACTS", x.count(3), 300);
        due("the last REPORT", x.verdict(298, 300), 1);
        due("the last CLOUD", x.verdict(299, 300), NONE);
        due("no FACT 300", x.verdict(300, 300), NONE);
    }

    private static void knownAreTheFirstN() {
        checks.sentence("as KNOWN by n the first n of them are:");
        CrescentCourt x = Worlds.growing();
        x.report(0, 29);
        x.cloud(0, 29);
        x.report(1, 29);
        Checks.readText(x, 0, "begin if seen==1 and cloud==0;");
        due("by 1: the REPORT alone", x.begins(0, 1, 1), 29);
        due("by 2: the CLOUD too", x.begins(0, 1, 2), 30);
        Checks.readText(x, 0, "begin if seen==2 and cloud==1;");
        due("by 2: not yet the other", x.begins(0, 1, 2), 30);
        due("by 3: all", x.begins(0, 1, 3), 29);
        due("FACT 2, by 2", x.verdict(2, 2), NONE);
        due("FACT 2, by 3", x.verdict(2, 3), 1);
        due("FACT 0, by 1", x.verdict(0, 1), 2);
        due("FACT 0, by 2", x.verdict(0, 2), 1);
    }

    private static void knownByNoneAndByAll() {
        checks.sentence("as KNOWN by n the first n of them are:");
        CrescentCourt x = Worlds.growing();
        due("by 0 of none", x.worth(0, 399, 0), 2);
        due("by 1 of none", x.worth(0, 399, 1), NONE);
        for (int i = 0; i < 300; i++) {
            x.report(0, 2);
        }
        due("by 0", x.worth(0, 399, 0), 2);
        due("by 1", x.worth(0, 399, 1), 3);
        due("by 299", x.worth(0, 399, 299), 301);
        due("by 300", x.worth(0, 399, 300), 302);
        due("by 301", x.worth(0, 399, 301), NONE);
        due("by -1", x.worth(0, 399, -1), NONE);
        due("by MIN", x.worth(0, 399, MIN), NONE);
        due("by MAX", x.worth(0, 399, MAX), NONE);
    }

    /** The verdict on a REPORT of EVENING 7 in LAND 0 under a LIGHT, with a CLOUD or without. */
    private static int verdictUnder(int light, int cloudLand, int cloudEvening) {
        CrescentCourt x = Worlds.lands(2);
        x.table(0, 1);
        x.cell(0, 0, light);
        x.witness(0);
        x.report(0, 7);
        x.cloud(cloudLand, cloudEvening);
        return x.verdict(0, 2);
    }

    private static void reportsAreFalseByLight0() {
        checks.sentence("A REPORT is FALSE, if the LIGHT in the WITNESS's LAND was 0;");
        due("without a CLOUD", verdictUnder(0, 1, 7), 0);
        due("under a CLOUD", verdictUnder(0, 0, 7), 0);
        CrescentCourt x = new CrescentCourt();
        x.land(0, 0);
        x.witness(0);
        x.report(0, 7);
        due("AGE not known", x.verdict(0, 1), 0);
    }

    private static void reportsAreTrueByLight2WithoutCloud() {
        checks.sentence("TRUE, if that was 2 and no CLOUD (KNOWN by n) was there;");
        due("no CLOUD there", verdictUnder(2, 1, 7), 2);
        due("a CLOUD on the EVENING ahead", verdictUnder(2, 0, 6), 2);
        due("a CLOUD on the EVENING behind", verdictUnder(2, 0, 8), 2);
        due("a CLOUD there", verdictUnder(2, 0, 7), 1);
        CrescentCourt x = Worlds.growing();
        x.cloud(0, 7);
        x.cloud(0, 8);
        x.cloud(0, 7);
        x.report(0, 7);
        x.report(0, 9);
        x.cloud(0, 9);
        due("a CLOUD told ahead of the REPORT", x.verdict(3, 4), 1);
        due("a CLOUD not KNOWN yet", x.verdict(4, 5), 2);
        due("a CLOUD KNOWN", x.verdict(4, 6), 1);
    }

    private static void reportsAreOpenElse() {
        checks.sentence("else it is open.");
        due("LIGHT 1 without a CLOUD", verdictUnder(1, 1, 7), 1);
        due("LIGHT 1 under a CLOUD", verdictUnder(1, 0, 7), 1);
        due("LIGHT 2 under a CLOUD", verdictUnder(2, 0, 7), 1);
    }

    private static void worthIs2AtFirst() {
        checks.sentence("WORTH of a WITNESS on EVENING d: 2,");
        CrescentCourt x = Worlds.growing();
        x.report(1, 5);
        due("on EVENING 0", x.worth(0, 0, 1), 2);
        due("on EVENING 399, another's REPORT", x.worth(0, 399, 1), 2);
    }

    private static void worthOfTrueAndFalseOnes() {
        checks.sentence("and 1 more for each TRUE, 2 less for each FALSE one of its REPORTS");
        CrescentCourt x = Worlds.growing();
        x.report(0, 5);
        x.report(0, 5);
        x.report(0, 6);
        x.report(0, 1);
        x.report(0, 0);
        due("a TRUE one", x.worth(0, 399, 1), 3);
        due("the same again", x.worth(0, 399, 2), 4);
        due("a third", x.worth(0, 399, 3), 5);
        due("an open one", x.worth(0, 399, 4), 5);
        due("a FALSE one", x.worth(0, 399, 5), 3);
        x.cloud(0, 5);
        due("a CLOUD takes two of them", x.worth(0, 399, 6), 1);
        x.cloud(0, 0);
        due("a FALSE one under a CLOUD", x.worth(0, 399, 7), 1);
    }

    private static void worthOfEveningsAhead() {
        checks.sentence("of its REPORTS of EVENINGS ahead of d;");
        CrescentCourt x = Worlds.growing();
        x.report(0, 5);
        x.report(0, 398);
        due("on EVENING 4", x.worth(0, 4, 2), 2);
        due("on EVENING 5", x.worth(0, 5, 2), 2);
        due("on EVENING 6", x.worth(0, 6, 2), 3);
        due("on EVENING 398", x.worth(0, 398, 2), 3);
        due("on EVENING 399", x.worth(0, 399, 2), 4);
        x.report(0, 0);
        due("on EVENING 0", x.worth(0, 0, 3), 2);
        due("on EVENING 1", x.worth(0, 1, 3), 0);
    }

    private static void worthAtLeast0() {
        checks.sentence("at least 0.");
        CrescentCourt x = Worlds.growing();
        x.report(0, 0);
        x.report(0, 0);
        x.report(0, 5);
        x.report(0, 5);
        x.report(0, 5);
        due("one FALSE one: 0", x.worth(0, 9, 1), 0);
        due("two FALSE ones: 0, not -2", x.worth(0, 9, 2), 0);
        due("and a TRUE one: 0, not -1", x.worth(0, 9, 3), 0);
        due("and another: 0", x.worth(0, 9, 4), 0);
        due("and a third: 1, of the sum alone", x.worth(0, 9, 5), 1);
    }
}
