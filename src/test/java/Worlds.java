/** Objects that the tests start from, and all that can be seen of one. */
final class Worlds {
    private static final int MONTHS_SEEN = 3;

    private Worlds() {
    }

    /** One LAND from EVENING 0 on whose moon is NEW at HOUR 0, without a TABLE: LIGHT 1 always. */
    static CrescentCourt oneLand() {
        CrescentCourt x = new CrescentCourt();
        x.moon(0);
        x.land(0, 0);
        return x;
    }

    /** LAND 0 as in oneLand(), and others like it. */
    static CrescentCourt lands(int count) {
        CrescentCourt x = oneLand();
        for (int land = 1; land < count; land++) {
            x.land(0, 0);
        }
        return x;
    }

    /** LIGHT is 0 on EVENING 0, 1 on EVENING 1, and 2 from EVENING 2 on; two WITNESSES. */
    static CrescentCourt growing() {
        CrescentCourt x = oneLand();
        x.table(0, 60);
        x.cell(0, 42, 1);
        x.cell(0, 59, 2);
        x.witness(0);
        x.witness(0);
        return x;
    }

    /**
     * Something of everything, nothing full: whatever a call changes here can be seen. LAND 0 is set
     * back on EVENING 33 by news from LAND 1, which began on EVENING 29, and LAND 2 by both.
     */
    static CrescentCourt busy() {
        CrescentCourt x = new CrescentCourt();
        x.moon(3);
        x.moon(660);
        x.land(0, 0);
        x.land(5, 0);
        x.land(-5, 0);
        x.table(0, 30);
        x.cell(0, 29, 2);
        x.table(1, 60);
        x.cell(1, 59, 1);
        x.travel(0, 1, 0);
        x.travel(1, 0, 4);
        x.travel(0, 2, 2);
        x.travel(1, 2, 3);
        x.witness(0);
        x.witness(1);
        x.witness(2);
        x.report(0, 29);
        x.report(1, 29);
        x.cloud(0, 29);
        x.report(0, 60);
        x.report(2, 29);
        Checks.readText(x, 0, "begin if worth==3; back if seen==2;");
        Checks.readText(x, 1, "not if seen==3; begin if seen==2;");
        Checks.readText(x, 2, "back if others==2;");
        Checks.readText(x, 2, "begin of");
        Checks.feedText(x, "begin if 1==1; not");
        return x;
    }

    /** As many of everything as can be there: 14 MOONS, 6 LANDS, 12 WITNESSES, 300 FACTS, a tape. */
    static CrescentCourt full() {
        CrescentCourt x = new CrescentCourt();
        for (int moon = 0; moon < 14; moon++) {
            x.moon(3 + 690 * moon);
        }
        for (int land = 0; land < 6; land++) {
            x.land(land, land);
            x.witness(land);
            x.witness(land);
        }
        for (int fact = 0; fact < 299; fact++) {
            x.report(fact % 12, 29 + fact % 6);
        }
        x.cloud(5, 34);
        Checks.readText(x, 0, "begin if seen==2;");
        Checks.feedText(x, "begin if 1==1;" + " ".repeat(1986));
        return x;
    }

    /** What can be asked of an object, told as a text, in some 200 calls. */
    static String seenOf(CrescentCourt x) {
        StringBuilder seen = new StringBuilder("place ").append(x.place());
        for (int what = 0; what <= 5; what++) {
            seen.append(" count").append(what).append(' ').append(x.count(what));
        }
        int n = x.count(3);
        for (int land = 0; land < x.count(0); land++) {
            seen.append("\nland ").append(land).append(" date ").append(x.date(land, 100, n));
            for (int evening = 28; evening <= 30; evening++) {
                seen.append(' ').append(x.age(land, evening));
                seen.append(' ').append(x.light(land, evening));
            }
            for (int month = 0; month <= MONTHS_SEEN; month++) {
                seen.append(' ').append(x.begins(land, month, n));
                seen.append(' ').append(x.by(land, month, n));
                seen.append(' ').append(x.heard(land, month, 0, n));
            }
        }
        for (int witness = 0; witness < x.count(2); witness++) {
            seen.append("\nworth ").append(x.worth(witness, 70, n));
        }
        for (int fact = Math.max(0, n - 8); fact < n; fact++) {
            seen.append("\nverdict ").append(x.verdict(fact, n));
        }
        return seen.toString();
    }
}
