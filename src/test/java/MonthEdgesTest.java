/** Part III of the document's Terms, on MONTHS: for each sentence that names an edge its own test. */
public final class MonthEdgesTest {
    private static final int NONE = CrescentCourt.NONE;
    private static final int BY_30_DAYS = -2;
    private static final Checks checks = new Checks();

    public static void main(String[] args) {
        month0BeginsWhenTold();
        daysOfAMonth();
        landByLandByNumbers();
        with29DaysABeginRule();
        with29DaysANotRule();
        with29DaysAskedForThisEvening();
        with29DaysAlone();
        with30DaysInAnyCase();
        setBackWith1To10Days();
        setBackOfMonthsByThirtyDays();
        setBackOnce();
        setBackAskedForTheEveningAhead();
        setBackIsSeenAtOnce();
        setBackByTheLastEvening();
        heardAreNotFalse();
        heardAreOfThatEvening();
        heardByTheirNews();
        varDays();
        varSeen();
        varWorth();
        varBest();
        varLight();
        varCloud();
        varMonth();
        varOthersAreOthers();
        varOthersOfThatNumber();
        varOthersUpToThatEvening();
        varOthersByTheirNews();
        varOthersAsItStandsThen();
        checks.end();
    }

    private static void due(String call, int got, int want) {
        checks.due(call, got, want);
    }

    private static void rules(CrescentCourt x, int land, String text) {
        due("read(" + land + ") of " + text, Checks.readText(x, land, text), 0);
    }

    /** The EVENING on which MONTH 1 of LAND 0 begins under a text, as KNOWN by all. */
    private static void begins(CrescentCourt x, String text, int want) {
        rules(x, 0, text);
        due("begins(0, 1) by " + text, x.begins(0, 1, x.count(3)), want);
    }

    private static void month0BeginsWhenTold() {
        checks.sentence("MONTHS of a LAND are numbered from 0 on; MONTH 0 begins on the EVENING that"
                + " was told for it.");
        CrescentCourt x = new CrescentCourt();
        int[] evenings = {0, 1, 369, 370, 371, 399};
        int[] next = {30, 31, 399, NONE, NONE, NONE};
        for (int land = 0; land < 6; land++) {
            x.land(0, evenings[land]);
            due("MONTH 0 from " + evenings[land], x.begins(land, 0, 0), evenings[land]);
            due("MONTH 1 behind it", x.begins(land, 1, 0), next[land]);
            due("no MONTH -1", x.begins(land, -1, 0), NONE);
        }
        CrescentCourt sooner = new CrescentCourt();
        sooner.land(0, 370);
        sooner.land(0, 371);
        rules(sooner, 0, "begin if 1==1;");
        rules(sooner, 1, "begin if 1==1;");
        due("29 DAYS on EVENING 399", sooner.begins(0, 1, 0), 399);
        due("28 DAYS on EVENING 399", sooner.begins(1, 1, 0), NONE);
    }

    private static void daysOfAMonth() {
        checks.sentence("DAYS of a MONTH on EVENING d: d less the EVENING on which it began.");
        CrescentCourt x = new CrescentCourt();
        x.land(0, 17);
        rules(x, 0, "begin if days==29 and month!=2;");
        due("MONTH 1", x.begins(0, 1, 0), 46);
        due("MONTH 2", x.begins(0, 2, 0), 76);
        due("MONTH 3", x.begins(0, 3, 0), 105);
    }

    private static void landByLandByNumbers() {
        checks.sentence("On each EVENING, from 0 on, LAND by LAND by numbers,");
        CrescentCourt x = Worlds.lands(3);
        x.travel(0, 1, 0);
        x.travel(1, 2, 0);
        x.travel(2, 1, 0);
        x.travel(1, 0, 0);
        rules(x, 0, "begin if others==1;");
        rules(x, 1, "begin if 1==1;");
        rules(x, 2, "begin if others==1;");
        due("a LAND ahead asks too early", x.begins(0, 1, 0), 30);
        due("a LAND behind asks in time", x.begins(2, 1, 0), 29);
        rules(x, 1, "begin if others==1;");
        rules(x, 2, "begin if 1==1;");
        due("the LAND ahead of the one that begins", x.begins(1, 1, 0), 30);
    }

    private static void with29DaysABeginRule() {
        checks.sentence("with 29 DAYS the next MONTH begins on this EVENING, if no not RULE holds,"
                + " and a begin RULE does");
        CrescentCourt x = Worlds.oneLand();
        begins(x, "begin if 1==1;", 29);
        begins(x, "begin if 1==2;", 30);
        begins(x, "begin if 1==2; begin if 1==1;", 29);
        begins(x, "back if 1==2; begin if 1==1;", 29);
        begins(x, "", 30);
        due("by 30 DAYS", x.by(0, 1, 0), BY_30_DAYS);
    }

    private static void with29DaysANotRule() {
        checks.sentence("if no not RULE holds, and a begin RULE does");
        CrescentCourt x = Worlds.oneLand();
        begins(x, "begin if 1==1; not if 1==1;", 30);
        begins(x, "not if 1==1; begin if 1==1;", 30);
        begins(x, "not if 1==2; begin if 1==1; not if 1==1;", 30);
        begins(x, "not if 1==2; begin if 1==1; not if 2==1;", 29);
        begins(x, "not if 1==2;", 30);
        begins(x, "not if 1==1;", 30);
    }

    private static void with29DaysAskedForThisEvening() {
        checks.sentence("(asked for this EVENING);");
        for (int evening = 27; evening <= 31; evening++) {
            CrescentCourt x = Worlds.oneLand();
            x.witness(0);
            x.report(0, evening);
            begins(x, "begin if seen==1;", evening == 29 ? 29 : 30);
            x.cloud(0, evening);
            begins(x, "begin if cloud==1;", evening == 29 ? 29 : 30);
        }
    }

    private static void with29DaysAlone() {
        checks.sentence("with 29 DAYS the next MONTH begins on this EVENING,");
        CrescentCourt x = Worlds.oneLand();
        for (int days = 26; days <= 31; days++) {
            begins(x, "begin if days==" + days + ";", days == 29 ? 29 : 30);
            due("its RULE", x.by(0, 1, 0), days == 29 ? 0 : BY_30_DAYS);
        }
        begins(x, "begin if days<=30;", 29);
    }

    private static void with30DaysInAnyCase() {
        checks.sentence("with 30 DAYS it begins on this EVENING in any case.");
        CrescentCourt x = Worlds.oneLand();
        begins(x, "not if 1==1;", 30);
        due("no RULE", x.by(0, 1, 0), BY_30_DAYS);
        begins(x, "begin if days==30; not if days==30;", 30);
        due("no RULE is asked", x.by(0, 1, 0), BY_30_DAYS);
        due("the next one", x.begins(0, 2, 0), 60);
        due("the last one", x.begins(0, 13, 0), 390);
        due("none behind", x.begins(0, 14, 0), NONE);
    }

    private static void setBackWith1To10Days() {
        checks.sentence("with 1 .. 10 DAYS of a MONTH that began by 30 DAYS and was not set back yet:"
                + " if a back RULE holds");
        CrescentCourt x = Worlds.oneLand();
        for (int days = 0; days <= 31; days++) {
            boolean isAsked = days >= 1 && days <= 10;
            begins(x, "back if days==" + days + " and month==1;", isAsked ? 29 : 30);
            due("its RULE", x.by(0, 1, 0), isAsked ? 0 : BY_30_DAYS);
            due("the next one", x.begins(0, 2, 0), isAsked ? 59 : 60);
        }
        begins(x, "back if days<1;", 30);
        begins(x, "back if 10<days;", 30);
    }

    private static void setBackOfMonthsByThirtyDays() {
        checks.sentence("of a MONTH that began by 30 DAYS");
        CrescentCourt x = new CrescentCourt();
        x.land(0, 5);
        rules(x, 0, "begin if month==1; back if 1==1;");
        due("MONTH 0 was told", x.begins(0, 0, 0), 5);
        due("MONTH 1 began by a RULE", x.begins(0, 1, 0), 34);
        due("its RULE", x.by(0, 1, 0), 0);
        due("MONTH 2 began by 30 DAYS", x.begins(0, 2, 0), 63);
        due("its RULE", x.by(0, 2, 0), 1);
    }

    private static void setBackOnce() {
        checks.sentence("and was not set back yet:");
        CrescentCourt x = Worlds.oneLand();
        begins(x, "back if days==1; back if 1==1;", 29);
        due("the first RULE that did it", x.by(0, 1, 0), 0);
        begins(x, "back if days==9; back if days==3;", 29);
        due("the sooner one", x.by(0, 1, 0), 1);
        due("MONTH 2, each once", x.begins(0, 2, 0), 58);
        due("MONTH 13, each once", x.begins(0, 13, 0), 377);
    }

    private static void setBackAskedForTheEveningAhead() {
        checks.sentence("(asked for the EVENING ahead of that on which it began),");
        for (int evening = 27; evening <= 32; evening++) {
            CrescentCourt x = Worlds.oneLand();
            x.witness(0);
            x.report(0, evening);
            begins(x, "back if seen==1 and month==1;", evening == 29 ? 29 : 30);
            x.cloud(0, evening);
            begins(x, "back if cloud==1 and month==1;", evening == 29 ? 29 : 30);
        }
    }

    private static void setBackIsSeenAtOnce() {
        checks.sentence("it is set back: it began one EVENING sooner (its DAYS are one more at once).");
        CrescentCourt x = Worlds.oneLand();
        begins(x, "back if days==10; begin if month==2;", 29);
        due("29 DAYS from the sooner EVENING", x.begins(0, 2, 0), 58);
        begins(x, "back if days==10 and month==1;", 29);
        due("30 DAYS from it", x.begins(0, 2, 0), 59);

        CrescentCourt seen = Worlds.lands(2);
        seen.travel(0, 1, 0);
        rules(seen, 0, "back if days==5;");
        rules(seen, 1, "back if others==1 and days==5;");
        due("on the same EVENING, a LAND behind", seen.begins(1, 1, 0), 29);
        rules(seen, 1, "back if others==1 and days==4;");
        due("not an EVENING ahead", seen.begins(1, 1, 0), 30);
    }

    private static void setBackByTheLastEvening() {
        checks.sentence("EVENINGS go from 0 to 399.");
        CrescentCourt x = new CrescentCourt();
        x.land(0, 365);
        begins(x, "back if days==4;", 394);
        begins(x, "back if days==5;", 395);
        CrescentCourt last = new CrescentCourt();
        last.land(0, 369);
        begins(last, "back if 1==1;", 399);
        CrescentCourt one = new CrescentCourt();
        one.land(0, 368);
        begins(one, "back if 1==1;", 397);
    }

    private static void heardAreNotFalse() {
        checks.sentence("REPORTS that are not FALSE,");
        for (int light = 0; light <= 2; light++) {
            CrescentCourt x = Worlds.lands(2);
            x.table(1, 1);
            x.cell(1, 0, light);
            x.travel(1, 0, 0);
            x.witness(1);
            x.report(0, 29);
            begins(x, "begin if seen==1;", light == 0 ? 30 : 29);
            begins(x, "back if seen==1;", light == 0 ? 30 : 29);
            due("heard()", x.heard(0, 1, 0, 1), light == 0 ? NONE : 0);
            x.cloud(1, 29);
            begins(x, "begin if seen==1;", light == 0 ? 30 : 29);
        }
    }

    private static void heardAreOfThatEvening() {
        checks.sentence("of sights on EVENING e,");
        CrescentCourt x = Worlds.oneLand();
        for (int evening = 27; evening <= 31; evening++) {
            x.witness(0);
            x.report(evening - 27, evening);
        }
        begins(x, "begin if seen==1;", 29);
        due("the one of that EVENING", x.heard(0, 1, 0, 5), 2);
        due("it alone", x.heard(0, 1, 1, 5), NONE);
        begins(x, "back if seen==1 and days==10;", 29);
        due("the one of that EVENING, set back", x.heard(0, 1, 0, 5), 2);
        due("it alone, set back", x.heard(0, 1, 1, 5), NONE);
    }

    private static void heardByTheirNews() {
        checks.sentence("whose news is there by d (e and TRAVEL).");
        CrescentCourt x = Worlds.lands(2);
        x.witness(1);
        x.report(0, 29);
        rules(x, 0, "begin if seen==1;");
        for (int days = 0; days <= 2; days++) {
            x.travel(1, 0, days);
            due("begin, " + days + " days", x.begins(0, 1, 1), days == 0 ? 29 : 30);
        }
        for (int days = 0; days <= 13; days++) {
            x.travel(1, 0, days);
            begins(x, "back if seen==1;", days <= 11 ? 29 : 30);
            int first = Math.max(days - 1, 1);
            begins(x, "back if seen==1 and days==" + first + ";", days <= 11 ? 29 : 30);
            if (first > 1) {
                begins(x, "back if seen==1 and days<" + first + ";", 30);
            }
        }
    }

    private static void varDays() {
        checks.sentence("days: DAYS;");
        CrescentCourt x = Worlds.oneLand();
        begins(x, "begin if days==29;", 29);
        begins(x, "begin if days!=29;", 30);
        begins(x, "back if days==1;", 29);
        // As it stood ahead of being set back, and not one more.
        begins(x, "back if days==3;", 29);
        CrescentCourt other = Worlds.lands(2);
        other.travel(1, 0, 8);
        rules(other, 1, "begin if 1==1;");
        begins(other, "back if others==1 and days==7;", 29);
    }

    private static void varSeen() {
        checks.sentence("seen: how many WITNESSES are HEARD (each once);");
        CrescentCourt x = Worlds.lands(2);
        x.travel(1, 0, 0);
        x.witness(0);
        x.witness(1);
        x.witness(0);
        begins(x, "begin if seen==0;", 29);
        x.report(0, 29);
        x.report(0, 29);
        begins(x, "begin if seen==1;", 29);
        x.report(1, 29);
        x.report(0, 29);
        begins(x, "begin if seen==2;", 29);
        x.report(2, 28);
        begins(x, "begin if seen==2;", 29);
        x.report(2, 29);
        x.report(2, 29);
        begins(x, "begin if seen==3;", 29);
        due("REPORTS are more", x.heard(0, 1, 5, 7), 6);
        due("no more of them", x.heard(0, 1, 6, 7), NONE);
    }

    private static void varWorth() {
        checks.sentence("worth: their WORTHS on EVENING d together;");
        CrescentCourt x = Worlds.growing();
        begins(x, "begin if worth==0;", 29);
        x.report(0, 10);
        x.report(1, 28);
        x.report(1, 27);
        begins(x, "begin if worth==0;", 29);
        x.report(0, 29);
        x.report(0, 29);
        begins(x, "begin if worth==3;", 29);
        x.report(1, 29);
        begins(x, "begin if worth==7;", 29);
        // On the EVENINGS behind the one asked for, the REPORTS of it count as well.
        begins(x, "back if worth==10 and days==1;", 29);
        x.report(1, 31);
        begins(x, "back if worth==10 and days==1;", 29);
        begins(x, "back if worth==11 and days==2;", 29);
        begins(x, "back if worth==11 and days==1;", 30);
    }

    private static void varBest() {
        checks.sentence("best: the greatest of these (0 without);");
        CrescentCourt x = Worlds.growing();
        begins(x, "begin if best==0;", 29);
        x.report(0, 10);
        x.report(1, 0);
        begins(x, "begin if best==0;", 29);
        x.report(1, 29);
        begins(x, "begin if best==0 and seen==1;", 29);
        x.report(0, 29);
        begins(x, "begin if best==3 and worth==3;", 29);
        x.report(1, 9);
        x.report(1, 9);
        x.report(1, 9);
        x.report(1, 9);
        begins(x, "begin if best==4 and worth==7;", 29);
    }

    private static void varLight() {
        checks.sentence("light: LIGHT there on EVENING e;");
        CrescentCourt x = new CrescentCourt();
        x.land(0, 0);
        begins(x, "begin if light==0;", 29);
        x.moon(24 * 29 + 18);
        begins(x, "begin if light==1;", 29);
        begins(x, "back if light==1 and month==1;", 29);
        x.table(0, 60);
        x.cell(0, 0, 2);
        x.cell(0, 24, 1);
        begins(x, "begin if light==2;", 29);
        begins(x, "back if light==2 and month==1;", 29);
        begins(x, "back if light!=2 and month==1;", 30);
        x.land(1, 0);
        x.table(1, 60);
        x.cell(1, 1, 1);
        rules(x, 1, "begin if light==1;");
        due("of its own LAND", x.begins(1, 1, 0), 29);
    }

    private static void varCloud() {
        checks.sentence("cloud: 1 if there is a CLOUD (KNOWN by n) there on EVENING e, else 0;");
        CrescentCourt x = Worlds.lands(2);
        x.travel(1, 0, 0);
        begins(x, "begin if cloud==0;", 29);
        x.cloud(1, 29);
        x.cloud(0, 28);
        x.cloud(0, 30);
        begins(x, "begin if cloud==0;", 29);
        x.cloud(0, 29);
        x.cloud(0, 29);
        begins(x, "begin if cloud==1;", 29);
        due("KNOWN by 4", x.begins(0, 1, 4), 29);
        due("KNOWN by 3", x.begins(0, 1, 3), 30);
        begins(x, "back if cloud==1;", 29);
        due("KNOWN by 3, set back", x.begins(0, 1, 3), 30);
    }

    private static void varMonth() {
        checks.sentence("month: the number of the MONTH that begins so, or is set back;");
        CrescentCourt x = Worlds.oneLand();
        for (int month = 1; month <= 13; month++) {
            rules(x, 0, "begin if month==" + month + ";");
            due("begins, by a RULE", x.by(0, month, 0), 0);
            due("the one ahead", x.by(0, month - 1, 0), month == 1 ? NONE : BY_30_DAYS);
            due("the one behind", x.by(0, month + 1, 0), month == 13 ? NONE : BY_30_DAYS);
            rules(x, 0, "back if month==" + month + ";");
            due("set back", x.by(0, month, 0), 0);
            due("on the EVENING ahead", x.begins(0, month, 0), 30 * month - 1);
        }
        rules(x, 0, "begin if month==0; back if month==0;");
        due("never MONTH 0", x.begins(0, 13, 0), 390);
    }

    private static void varOthersAreOthers() {
        checks.sentence("others: how many other LANDS have begun");
        CrescentCourt x = Worlds.lands(6);
        for (int land = 0; land < 5; land++) {
            x.travel(land, 5, 0);
            rules(x, land, "begin if 1==1;");
        }
        rules(x, 5, "begin if others==5;");
        due("all five", x.begins(5, 1, 0), 29);
        rules(x, 3, "");
        due("four of five", x.begins(5, 1, 0), 30);
        CrescentCourt one = Worlds.oneLand();
        begins(one, "begin if others==0;", 29);
        begins(one, "back if others==0;", 29);
        begins(one, "back if others!=0;", 30);
    }

    private static void varOthersOfThatNumber() {
        checks.sentence("a MONTH of that number");
        CrescentCourt x = new CrescentCourt();
        x.land(0, 100);
        x.land(0, 0);
        x.travel(0, 1, 0);
        x.travel(1, 0, 0);
        rules(x, 0, "begin if others==1;");
        rules(x, 1, "begin if others==1;");
        due("MONTH 1 of the other was long ago", x.begins(0, 1, 0), 129);
        due("MONTH 1 of the other is to come", x.begins(1, 1, 0), 30);
        due("its MONTH 4, of which there is none", x.begins(1, 4, 0), 120);
        rules(x, 0, "begin if others==1; not if month!=10;");
        due("MONTH 10 there, on EVENING 300", x.begins(0, 10, 0), 399);
        CrescentCourt early = new CrescentCourt();
        early.land(0, 0);
        early.land(0, 0);
        early.travel(1, 0, 0);
        begins(early, "begin if others!=0; back if others!=0;", 30);
    }

    private static void varOthersUpToThatEvening() {
        checks.sentence("on an EVENING up to e,");
        int[] due = {29, 29, 30, 30};
        for (int later = 0; later < due.length; later++) {
            CrescentCourt x = new CrescentCourt();
            x.land(0, 1);
            x.land(0, later);
            x.travel(1, 0, 0);
            rules(x, 1, "begin if 1==1;");
            rules(x, 0, "back if others==1;");
            due("set back, MONTH 1 of the other on " + (29 + later), x.begins(0, 1, 0),
                    due[later] + 1);
        }
    }

    private static void varOthersByTheirNews() {
        checks.sentence("and news of it is there by d (that EVENING and TRAVEL).");
        CrescentCourt x = Worlds.lands(2);
        rules(x, 1, "begin if 1==1;");
        rules(x, 0, "back if others==1;");
        due("never", x.begins(0, 1, 0), 30);
        for (int days = 0; days <= 13; days++) {
            x.travel(1, 0, days);
            begins(x, "back if others==1;", days <= 11 ? 29 : 30);
            int first = Math.max(days - 1, 1);
            begins(x, "back if others==1 and days==" + first + ";", days <= 11 ? 29 : 30);
            if (first > 1) {
                begins(x, "back if others==1 and days<" + first + ";", 30);
            }
        }
        CrescentCourt sooner = new CrescentCourt();
        sooner.land(0, 3);
        sooner.land(0, 0);
        sooner.travel(1, 0, 2);
        rules(sooner, 0, "begin if others==1;");
        due("of EVENING 30, by EVENING 32", sooner.begins(0, 1, 0), 32);
        sooner.travel(1, 0, 3);
        due("of EVENING 30, not by EVENING 32", sooner.begins(0, 1, 0), 33);
    }

    private static void varOthersAsItStandsThen() {
        checks.sentence("have begun, as it stands then,");
        CrescentCourt x = Worlds.lands(2);
        x.travel(1, 0, 0);
        rules(x, 1, "back if days==5;");
        begins(x, "back if others==1 and days==5;", 30);
        begins(x, "back if others==1 and days==6;", 29);
        // Set back on EVENING 35, it began on EVENING 29: its news goes from there on.
        x.travel(1, 0, 7);
        begins(x, "back if others==1 and days==6;", 29);
        x.travel(1, 0, 8);
        begins(x, "back if others==1 and days==6;", 30);
        begins(x, "back if others==1 and days==7;", 29);
    }
}
