import java.util.Arrays;
import java.util.List;

/** Part II of the document's Terms, on RULES: for each sentence that names an edge its own test. */
public final class TextEdgesTest {
    private static final int NONE = CrescentCourt.NONE;
    private static final int FINE = 0;
    private static final int SYNTAX = 1;
    private static final int ROOM = 2;
    private static final String RULE = "begin if 1==1;";

    /** Every TOKEN that a text can have, the text's end, and what is no TOKEN. */
    private static final List<String> ALL_TOKENS = List.of("begin", "not", "back", "if", "or", "and",
            "days", "seen", "worth", "best", "light", "cloud", "others", "month", "7", ";", "+", "-",
            "*", "==", "!=", "<", "<=", "(", ")", "", "@", "=", "!", "word", "12345", "ninewords");
    private static final String RULE_WORDS = "begin not back";
    private static final String UNITS = "days seen worth best light cloud others month 7 (";
    private static final String RELATIONS = "+ - * == != < <=";
    private static final String BONDS = "+ - * and or ;";
    private static final String INSIDE = "+ - * )";

    private static final Checks checks = new Checks();

    public static void main(String[] args) {
        textOfEachLand();
        textOf2000Bytes();
        textOfNoBytes();
        tokensAreTheLongestThatCanBe();
        tokensWithoutBlanks();
        blanksAreFour();
        wordsOfLettersAToZ();
        wordsOf8LettersAtMost();
        intsOf1To4Digits();
        signsAreTen();
        longerOnesAreNoTokens();
        allElseIsNoToken();
        grammarOfRules();
        grammarOfConditions();
        grammarOfUnits();
        grammarOfBrackets();
        grammarBinds();
        relationsAtTheirEdges();
        rulesAreNumberedFrom0();
        intsWrap();
        theFirstFaultByItsPlace();
        faultsAtTheEndOfTheText();
        ofOnePlaceTheLeast();
        roomFor400Tokens();
        roomFor12Rules();
        roomFor6Brackets();
        aFaultChangesNothing();
        aTextInPlaceOfTheOneAhead();
        aTextForAllEvenings();
        checks.end();
    }

    private static void due(String call, int got, int want) {
        checks.due(call, got, want);
    }

    private static void fault(String text, int fault, int place) {
        CrescentCourt x = Worlds.oneLand();
        due("read of \"" + text + "\"", Checks.readText(x, 0, text), fault);
        due("place in \"" + text + "\"", x.place(), place);
    }

    private static void fine(String text) {
        fault(text, FINE, NONE);
    }

    /** Whether a begin RULE with this condition holds. */
    private static void holds(String condition, boolean want) {
        CrescentCourt x = Worlds.oneLand();
        due("read of \"" + condition + "\"",
                Checks.readText(x, 0, "begin if " + condition + ";"), FINE);
        due("MONTH 1 if " + condition, x.begins(0, 1, 0), want ? 29 : 30);
    }

    private static String times(int n, String part) {
        return part.repeat(n);
    }

    private static void textOfEachLand() {
        checks.sentence("RULES are a text for each LAND,");
        CrescentCourt x = Worlds.lands(6);
        for (int land = 0; land < 6; land++) {
            Checks.readText(x, land, times(land, "not if 1==2;") + "begin if month==1+" + land + ";");
        }
        for (int land = 0; land < 6; land++) {
            due("LAND " + land, x.by(land, land + 1, 0), land);
            due("its next MONTH", x.by(land, land + 2, 0), -2);
        }
        due("RULES of all", x.count(4), 21);
    }

    private static void textOf2000Bytes() {
        checks.sentence("of at most 2,000 bytes.");
        CrescentCourt x = Worlds.oneLand();
        due("2,000 bytes", Checks.feedText(x, times(1986, " ") + RULE), 2000);
        due("a 2,001st", x.feed(0, 0, 0, 0, 0), NONE);
        due("read", x.read(0), FINE);
        due("it is the LAND's", x.begins(0, 1, 0), 29);
        fault(times(1987, "\n") + "begin if 1==1", SYNTAX, 2000);
        fault(RULE + times(1985, "\t") + "@", SYNTAX, 1999);
        fine(RULE + times(1986, "\r"));
    }

    private static void textOfNoBytes() {
        checks.sentence("text: {RULE}.");
        CrescentCourt x = Worlds.oneLand();
        due("a RULE", Checks.readText(x, 0, RULE), FINE);
        due("no bytes", x.read(0), FINE);
        due("place", x.place(), NONE);
        due("no RULES", x.count(4), 0);
        due("MONTH 1", x.begins(0, 1, 0), 30);
        fine(" ");
        fine(times(2000, " "));
    }

    private static void tokensAreTheLongestThatCanBe() {
        checks.sentence("TOKENS, the longest that can be,");
        fine("begin if 1<=1;");
        fault("begin if 1< =1;", SYNTAX, 12);
        fault("begin if 1<==1;", SYNTAX, 12);
        fault("begin if 1===1;", SYNTAX, 12);
        fault("begin if 1!==1;", SYNTAX, 12);
        fault("begin if 1= =1;", SYNTAX, 10);
        fault("begin if 1! =1;", SYNTAX, 10);
        fault("begin if 1<<1;", SYNTAX, 11);
        fault("beginif 1==1;", SYNTAX, 0);
        fault("begin ifdays==1;", SYNTAX, 6);
        fault("begin if days==1ordays==1;", SYNTAX, 16);
        fault("begin if 12 34==1;", SYNTAX, 12);
        fault("begin if days 1==1;", SYNTAX, 14);
        fault("be gin if 1==1;", SYNTAX, 0);
    }

    private static void tokensWithoutBlanks() {
        checks.sentence("with blanks (9, 10, 13, 32) between or not:");
        fine("begin if1==1;not if(1)<=1and 1!=2or(days)<seen;back if 1==1;");
        fine("begin if 1==1or 1==1and 1<2;");
        fine("\n\nbegin  \t if\r\n( 1 ) == 1 ; ");
        fault("begin if days1==1;", SYNTAX, 13);
        fault("begin if 1days==1;", SYNTAX, 10);
    }

    private static void blanksAreFour() {
        checks.sentence("blanks (9, 10, 13, 32)");
        for (char c = 0; c < 256; c++) {
            boolean isBlank = c == 9 || c == 10 || c == 13 || c == 32;
            CrescentCourt x = Worlds.oneLand();
            due("byte " + (int) c + " behind a RULE", Checks.readText(x, 0, RULE + c),
                    isBlank ? FINE : SYNTAX);
            due("its place", x.place(), isBlank ? NONE : 14);
            due("byte " + (int) c + " ahead of a RULE", Checks.readText(x, 0, c + RULE),
                    isBlank ? FINE : SYNTAX);
            due("its place", x.place(), isBlank ? NONE : 0);
        }
    }

    private static void wordsOfLettersAToZ() {
        checks.sentence("WORDS (letters a .. z, 8 at most),");
        fault("Begin if 1==1;", SYNTAX, 0);
        fault("begiN if 1==1;", SYNTAX, 0);
        fault("begin if days`==1;", SYNTAX, 13);
        fault("begin if days{==1;", SYNTAX, 13);
        fault("begin if `days==1;", SYNTAX, 9);
        fault("begin if day_s==1;", SYNTAX, 9);
        fault("begin if day==1;", SYNTAX, 9);
        fault("begin if dayz==1;", SYNTAX, 9);
        fault("begin if dayss==1;", SYNTAX, 9);
        fault("begin if a==1;", SYNTAX, 9);
        fault("begin if z==1;", SYNTAX, 9);
    }

    private static void wordsOf8LettersAtMost() {
        checks.sentence("WORDS (letters a .. z, 8 at most),");
        fault("begin if abcdefgh==1;", SYNTAX, 9);
        fault("begin if abcdefghi==1;", SYNTAX, 9);
        fault("begin if otherssss==1;", SYNTAX, 9);
        fault("begin if " + times(1900, "z"), SYNTAX, 9);
        fault("begin if 1==1;" + times(3, "begin"), SYNTAX, 14);
    }

    private static void intsOf1To4Digits() {
        checks.sentence("INTS (1 to 4 digits),");
        holds("0==0", true);
        holds("9==4+5", true);
        holds("10==2*5", true);
        holds("999==1000-1", true);
        holds("9999==5000+4999", true);
        holds("0009==9", true);
        holds("0000==0", true);
        fault("begin if 12345==1;", SYNTAX, 9);
        fault("begin if 00000==0;", SYNTAX, 9);
        fault("begin if 1==10000;", SYNTAX, 12);
        fault("begin if " + times(1900, "1"), SYNTAX, 9);
        fault("begin if 1/==1;", SYNTAX, 10);
        fault("begin if 1:==1;", SYNTAX, 10);
        fault("begin if -1==1;", SYNTAX, 9);
    }

    private static void signsAreTen() {
        checks.sentence("SIGNS ; + - * == != < <= ( )");
        fine("begin if (1+2-3)*4==5 or 1!=2 or 1<2 or 1<=2;");
        for (String sign : new String[] {"=", "!", ">", ">=", "=<", "/", "&", "|", "%", "[", ",",
            ".", ":", "^", "~", "\"", "\u00d7"}) {
            fault("begin if 1" + sign, SYNTAX, 10);
        }
    }

    private static void longerOnesAreNoTokens() {
        checks.sentence("A longer one, all else, is no TOKEN.");
        fault("begin if 10000", SYNTAX, 9);
        fault("begin if 1==1;beginning if 1==1;", SYNTAX, 14);
        fault("begin ifififif 1==1;", SYNTAX, 6);
        fault("begin ififififi 1==1;", SYNTAX, 6);
        fault("begin if 1=1;", SYNTAX, 10);
    }

    private static void allElseIsNoToken() {
        checks.sentence("A longer one, all else, is no TOKEN.");
        for (char c : new char[] {0, 11, 12, 31, 33, 47, 58, 61, 64, 95, 96, 123, 127, 128, 160, 255}) {
            fault("begin if " + c, SYNTAX, 9);
        }
    }

    /** Behind these words just these TOKENS may stand ("" is the end); each other one is a FAULT. */
    private static void goesOnWith(String words, String tokens, boolean canEnd) {
        List<String> fitting = Arrays.asList(tokens.split(" "));
        int place = words.isEmpty() ? 0 : words.length() + 1;
        for (String token : ALL_TOKENS) {
            boolean fits = token.isEmpty() ? canEnd : fitting.contains(token);
            String text = words.isEmpty() ? token : words + " " + token;
            CrescentCourt x = Worlds.oneLand();
            int fault = Checks.readText(x, 0, text);
            boolean isThere = fault == SYNTAX && x.place() == place;
            checks.due("a FAULT at the end of \"" + text + "\"", isThere, !fits);
        }
    }

    private static void grammarOfRules() {
        checks.sentence("RULE: ('begin' | 'not' | 'back') 'if' COND ';'.");
        goesOnWith("", RULE_WORDS, true);
        goesOnWith(RULE, RULE_WORDS, true);
        for (String word : RULE_WORDS.split(" ")) {
            goesOnWith(word, "if", false);
            goesOnWith(word + " if", UNITS, false);
            goesOnWith(word + " if 1 == 1", BONDS, false);
            fine(word + " if 1 == 1;");
        }
    }

    private static void grammarOfConditions() {
        checks.sentence("COND: ALL {'or' ALL}.   ALL: REL {'and' REL}."
                + "   REL: E ('==' | '!=' | '<' | '<=') E.");
        for (String sign : new String[] {"==", "!=", "<", "<="}) {
            goesOnWith("begin if 1 " + sign, UNITS, false);
            goesOnWith("begin if 1 " + sign + " 1", BONDS, false);
        }
        for (String word : new String[] {"and", "or"}) {
            goesOnWith("begin if 1 == 1 " + word, UNITS, false);
            goesOnWith("begin if 1 == 1 " + word + " 1", RELATIONS, false);
            goesOnWith("begin if 1 == 1 " + word + " 1 < 2", BONDS, false);
        }
        goesOnWith("begin if 1 == 1 or 2 < 1 and 3 <= 1", BONDS, false);
        goesOnWith("begin if 1 == 1; back if 1", RELATIONS, false);
    }

    private static void grammarOfUnits() {
        checks.sentence("E: PART {('+' | '-') PART}.   PART: UNIT {'*' UNIT}."
                + "   UNIT: INT | VAR | '(' E ')'.");
        for (String unit : "days seen worth best light cloud others month 0 9999 (1)".split(" ")) {
            goesOnWith("begin if " + unit, RELATIONS, false);
            goesOnWith("begin if 1 < " + unit, BONDS, false);
        }
        for (String sign : new String[] {"+", "-", "*"}) {
            goesOnWith("begin if 1 " + sign, UNITS, false);
            goesOnWith("begin if 1 " + sign + " 1", RELATIONS, false);
            goesOnWith("begin if 1 == 1 " + sign, UNITS, false);
            goesOnWith("begin if 1 == 1 " + sign + " 1", BONDS, false);
        }
    }

    private static void grammarOfBrackets() {
        checks.sentence("UNIT: INT | VAR | '(' E ')'.");
        goesOnWith("begin if (", UNITS, false);
        goesOnWith("begin if ( 1", INSIDE, false);
        goesOnWith("begin if ( 1 +", UNITS, false);
        goesOnWith("begin if ( 1 + days", INSIDE, false);
        goesOnWith("begin if ( 1 )", RELATIONS, false);
        goesOnWith("begin if ( ( 1", INSIDE, false);
        goesOnWith("begin if ( ( 1 )", INSIDE, false);
        goesOnWith("begin if ( ( 1 ) )", RELATIONS, false);
        goesOnWith("begin if 1 == (", UNITS, false);
        goesOnWith("begin if 1 == ( 1", INSIDE, false);
        goesOnWith("begin if 1 == ( 1 )", BONDS, false);
        goesOnWith("begin if 1 == 1 and ( 1 )", RELATIONS, false);
    }

    private static void grammarBinds() {
        checks.sentence("COND: ALL {'or' ALL}.   ALL: REL {'and' REL}."
                + "   REL: E ('==' | '!=' | '<' | '<=') E."
                + "   E: PART {('+' | '-') PART}.   PART: UNIT {'*' UNIT}.");
        holds("1==1+1", false);
        holds("2==1+1", true);
        holds("1+1==1", false);
        holds("0<1-1", false);
        holds("1<=1-1", false);
        holds("1!=0+1", false);
        holds("2==1*2", true);
        holds("1==1*2", false);
        holds("2+3*4==14", true);
        holds("2*3+4==10", true);
        holds("(2+3)*4==20", true);
        holds("2*(3+4)==14", true);
        holds("10-3-2==5", true);
        holds("10-(3-2)==9", true);
        holds("10-2*3+1==5", true);
        holds("1==1 or 1==1 and 1==2", true);
        holds("1==2 and 1==1 or 1==1", true);
        holds("1==2 and 1==2 or 1==2", false);
        holds("1==2 or 1==1 and 1==2", false);
        holds("1==2 or 1==2 and 1==1 or 1==1", true);
        holds("1==1 and 1==1 and 1==2", false);
        holds("1==2 or 1==2 or 1==1", true);
    }

    private static void relationsAtTheirEdges() {
        checks.sentence("REL: E ('==' | '!=' | '<' | '<=') E.");
        String[] signs = {"==", "!=", "<", "<="};
        boolean[][] due = {{false, true, false}, {true, false, true}, {true, false, false},
            {true, true, false}};
        for (int s = 0; s < signs.length; s++) {
            for (int left = 4; left <= 6; left++) {
                holds(left + signs[s] + "5", due[s][left - 4]);
                holds(left + signs[s] + "5 and 7==7", due[s][left - 4]);
                holds("7==7 and " + left + signs[s] + "5", due[s][left - 4]);
                holds("7==8 or " + left + signs[s] + "5", due[s][left - 4]);
            }
        }
        holds("0-1<0", true);
        holds("0<0-1", false);
        holds("0-2<=0-1", true);
        holds("0-1==0-1", true);
    }

    private static void rulesAreNumberedFrom0() {
        checks.sentence("RULES are numbered from 0 on.");
        CrescentCourt x = Worlds.oneLand();
        Checks.readText(x, 0, "begin if month==1; begin if month==2; not if month==3;"
                + "back if month==3; " + times(7, "not if 1==2;") + "begin if 4<=month;");
        due("RULE 0", x.by(0, 1, 0), 0);
        due("RULE 1", x.by(0, 2, 0), 1);
        due("RULE 3", x.by(0, 3, 0), 3);
        due("RULE 11", x.by(0, 4, 0), 11);
    }

    private static void intsWrap() {
        checks.sentence("Ints of 32 bits that wrap.");
        holds("256*256*256*256==0", true);
        holds("256*256*256*128<0", true);
        holds("256*256*256*128-1==256*256*256*128+(256*256*256*256-1)", true);
        holds("0<256*256*256*128-1", true);
        holds("256*256*256*128-1+1<0", true);
        holds("256*256*256*128+256*256*256*128==0", true);
        holds("0-256*256*256*128==256*256*256*128", true);
        holds("(256*256*256*128-1)*2==0-2", true);
        holds("9999*9999*9999==0-1027*1000*1000-349*1000-969", true);
        holds("9999*9999*30<0", true);
        holds("256*256*256*128-(0-1)<0", true);
        holds("256*256*256*128<=0-9999", true);
    }

    private static void theFirstFaultByItsPlace() {
        checks.sentence("FAULTS, the first by its place (a byte; the text's end: its length),");
        String twelve = times(12, "not if 1==1;");
        fault("@ " + twelve + "not if 1==1;", SYNTAX, 0);
        fault(twelve + "not @", ROOM, 144);
        fault("begin if (((((((@", ROOM, 15);
        fault("begin if ((((((@(", SYNTAX, 15);
        fault("begin if 1==1" + times(200, "+1") + "@", ROOM, 13 + 2 * 197 + 1);
        fault("begin if 1==1" + times(197, "+1") + "@@", SYNTAX, 13 + 2 * 197);
        fault("begin if @ @", SYNTAX, 9);
        fault("  @", SYNTAX, 2);
    }

    private static void faultsAtTheEndOfTheText() {
        checks.sentence("(a byte; the text's end: its length),");
        fault("begin", SYNTAX, 5);
        fault("begin  \n", SYNTAX, 8);
        fault("begin if", SYNTAX, 8);
        fault("begin if 1", SYNTAX, 10);
        fault("begin if 1==", SYNTAX, 12);
        fault("begin if 1!=", SYNTAX, 12);
        fault("begin if 1<=", SYNTAX, 12);
        fault("begin if 1<", SYNTAX, 11);
        fault("begin if 1=", SYNTAX, 10);
        fault("begin if 1!", SYNTAX, 10);
        fault("begin if 1==1", SYNTAX, 13);
        fault("begin if 1==1 ", SYNTAX, 14);
        fault("begin if (1", SYNTAX, 11);
        fault("begin if (", SYNTAX, 10);
        fault("begin if 1==1 and", SYNTAX, 17);
        fault(RULE + "not", SYNTAX, 17);
    }

    private static void ofOnePlaceTheLeast() {
        checks.sentence("of one place the least:");
        // 400 TOKENS, the last of them just named; what comes next would be the 401st.
        String open = "begin if 1==1" + times(197, "+1") + "+";
        fault(open + "@", SYNTAX, open.length());
        fault(open + "+", SYNTAX, open.length());
        fault(open + ";", SYNTAX, open.length());
        fault(open + "12345", SYNTAX, open.length());
        fault(open + "1", ROOM, open.length());
        fault(open + "(", ROOM, open.length());
        String twelve = times(12, "not if 1==1;");
        fault(twelve + "if", SYNTAX, 144);
        fault(twelve + "@", SYNTAX, 144);
        fault(twelve + "nots", SYNTAX, 144);
        fault("begin if ((((((1(", SYNTAX, 16);
        // A 7th ( that is the 401st TOKEN too, and a 13th RULE that is.
        String deep = "begin if 1==1" + times(194, "+1") + "+((((((";
        fault(deep + "(", ROOM, deep.length());
        String rules = "begin if 1==1" + times(164, "+1") + ";" + times(11, "not if 1==1;");
        fine(rules);
        fault(rules + "not", ROOM, rules.length());
        fault(rules + "if", SYNTAX, rules.length());
    }

    private static void roomFor400Tokens() {
        checks.sentence("2 ROOM: a 401st TOKEN;");
        String sum = "begin if 1==1" + times(197, "+1");
        fine(sum + ";");
        fine(sum + " ; \n");
        fault(sum, SYNTAX, sum.length());
        fault(sum + ";begin", ROOM, sum.length() + 1);
        fault(sum + "; begin if 1==1;", ROOM, sum.length() + 2);
        fault(sum + "+1;", ROOM, sum.length() + 1);
        String shorter = "begin if 1==1" + times(196, "+1") + ";";
        fault(shorter + "begin if ", SYNTAX, shorter.length() + 9);
        fault(shorter + "begin if 1", ROOM, shorter.length() + 9);
        CrescentCourt x = Worlds.oneLand();
        due("398 TOKENS of a sum", Checks.readText(x, 0, "begin if 198==1" + times(197, "+1") + ";"), 0);
        due("all of them count", x.begins(0, 1, 0), 29);
    }

    private static void roomFor12Rules() {
        checks.sentence("a 13th RULE (at its first TOKEN);");
        for (String word : RULE_WORDS.split(" ")) {
            String twelve = times(12, word + " if 1==1;");
            fine(twelve);
            fine(twelve + " ");
            fault(twelve + " " + word + " if 1==1;", ROOM, twelve.length() + 1);
            fault(twelve + word, ROOM, twelve.length());
        }
        CrescentCourt x = Worlds.oneLand();
        Checks.readText(x, 0, times(11, "begin if 1==2;") + "begin if 1==1;");
        due("RULES", x.count(4), 12);
        due("the 12th holds", x.by(0, 1, 0), 11);
    }

    private static void roomFor6Brackets() {
        checks.sentence("a 7th ( within one another (at it).");
        holds("((((((7))))))==7", true);
        holds("((((((1+1)+1)+1)+1)+1)+1)==1+(1+(1+(1+(1+(1+(1))))))", true);
        fault("begin if (((((((1)))))))==1;", ROOM, 15);
        fault("begin if 1==(((((((1)))))));", ROOM, 18);
        fault("begin if ((((((1)+(((((2))))))))))==1;", ROOM, 19);
        fault("begin if ((((((1)+(2)+(3))))))==1;", FINE, NONE);
        fault("begin if ((((((1)+(2)+((3", ROOM, 23);
        holds("((((((1))))))+((((((1))))))==((((((2))))))", true);
        fine(times(6, "begin if ((((((1))))))==1;"));
        fault("begin if 1==1 and " + times(7, "("), ROOM, 24);
        // A FAULT within some ( leaves none of them open for the next text.
        CrescentCourt x = Worlds.oneLand();
        due("open ones", Checks.readText(x, 0, "begin if ((((1*"), SYNTAX);
        due("six of the next text", Checks.readText(x, 0, "begin if ((((((1))))))==1;"), FINE);
        due("it holds", x.begins(0, 1, 0), 29);
    }

    private static void aFaultChangesNothing() {
        checks.sentence("A text with a FAULT changes nothing;");
        String[] faulty = {"begin", "@", "not if 1==1", times(13, "not if 1==1;"),
            "not if 1==1; begin if (((((((1", "not if 1==1; not if 1=1;",
            times(12, "not if 1==1;") + "oops", "not if 1==1;" + times(400, "begin if 1==1;")};
        for (String text : faulty) {
            CrescentCourt x = Worlds.lands(2);
            Checks.readText(x, 0, "back if 1==2; begin if 1==1;");
            Checks.readText(x, 1, "begin if month==2;");
            Checks.readText(x, 0, text.substring(0, Math.min(text.length(), 2000)));
            checks.due("a place for " + text, x.place() != NONE, true);
            due("RULES", x.count(4), 3);
            due("MONTH 1", x.by(0, 1, 0), 1);
            due("MONTH 2 of LAND 1", x.by(1, 2, 0), 0);
        }
        CrescentCourt x = Worlds.oneLand();
        due("no text ahead", Checks.readText(x, 0, RULE + "@"), SYNTAX);
        due("no RULES", x.count(4), 0);
        due("MONTH 1 without", x.begins(0, 1, 0), 30);
    }

    private static void aTextInPlaceOfTheOneAhead() {
        checks.sentence("else it is that LAND's, in place of the one ahead,");
        CrescentCourt x = Worlds.oneLand();
        Checks.readText(x, 0, times(11, "begin if 1==2;") + RULE);
        due("the 12th", x.by(0, 1, 0), 11);
        Checks.readText(x, 0, "begin if 1==2;");
        due("one RULE that does not hold", x.by(0, 1, 0), -2);
        due("RULES", x.count(4), 1);
        Checks.readText(x, 0, RULE);
        due("one that does", x.by(0, 1, 0), 0);
        Checks.readText(x, 0, "not if 1==1;");
        due("a not RULE alone", x.by(0, 1, 0), -2);
        Checks.readText(x, 0, "back if 1==1;");
        due("a back RULE alone", x.begins(0, 1, 0), 29);
        x.read(0);
        due("no text", x.begins(0, 1, 0), 30);
    }

    private static void aTextForAllEvenings() {
        checks.sentence("for all EVENINGS.");
        CrescentCourt x = Worlds.oneLand();
        due("ahead of a text", x.begins(0, 13, 0), 390);
        Checks.readText(x, 0, RULE);
        due("from the first MONTH on", x.begins(0, 1, 0), 29);
        due("to the last one", x.begins(0, 13, 0), 377);
        Checks.readText(x, 0, "begin if month==13;");
        due("another, MONTH 1", x.begins(0, 1, 0), 30);
        due("another, MONTH 13", x.begins(0, 13, 0), 389);
    }
}
