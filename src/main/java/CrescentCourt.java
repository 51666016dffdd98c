import java.util.Arrays;

/**
 * A court of the crescent: in each LAND a MONTH begins when its RULES hold a thin moon for seen.
 * Words in capitals are the terms of the document.
 */
public final class CrescentCourt {
    public static final int NONE = -1;

    private static final int EVENINGS = 400;
    private static final int HOURS = 10_000;
    private static final int MAX_MOONS = 14;
    private static final int MAX_LANDS = 6;
    private static final int MAX_SHIFT = 12;
    private static final int MAX_CELLS = 60;
    private static final int MAX_TRAVEL = 60;
    private static final int MAX_WITNESSES = 12;
    private static final int MAX_FACTS = 300;
    private static final int MAX_MONTH = 14;
    private static final int MAX_DAY = 30;
    private static final int MAX_TAPE = 2000;
    private static final int MAX_TOKENS = 400;
    private static final int MAX_RULES = 12;
    private static final int MAX_DEPTH = 6;
    private static final int FEED_BYTES = 20;

    /** So far above every EVENING that news which takes so many days is nowhere by any EVENING. */
    private static final int NEVER = 1_000_000;

    private static final int UNSEEN = 0;
    private static final int MAYBE = 1;
    private static final int SURELY = 2;

    private static final int FALSE_SIGHT = 0;
    private static final int OPEN_SIGHT = 1;
    private static final int TRUE_SIGHT = 2;

    private static final int BY_THIRTY_DAYS = -2;

    private static final int NO_FAULT = 0;
    private static final int SYNTAX = 1;
    private static final int ROOM = 2;

    /** Each word has a blank behind it; its place among them is its kind of TOKEN. */
    private static final String WORDS =
            "begin not back if or and days seen worth best light cloud others month ";
    private static final int BEGIN = 0;
    private static final int NOT = 1;
    private static final int BACK = 2;
    private static final int IF = 3;
    private static final int OR = 4;
    private static final int AND = 5;
    private static final int DAYS = 6;
    private static final int SEEN = 7;
    private static final int WORTH = 8;
    private static final int BEST = 9;
    private static final int LIGHT = 10;
    private static final int CLOUD = 11;
    private static final int OTHERS = 12;
    private static final int MONTH = 13;
    private static final int INT = 14;
    private static final int SEMICOLON = 15;
    private static final int PLUS = 16;
    private static final int MINUS = 17;
    private static final int TIMES = 18;
    private static final int EQUAL = 19;
    private static final int UNEQUAL = 20;
    private static final int BELOW = 21;
    private static final int UP_TO = 22;
    private static final int OPEN = 23;
    private static final int CLOSE = 24;
    private static final int END = 25;
    private static final int BAD = 26;

    /** In a RULE's code INTS stand as they are, at most 9999; all else is its kind above this. */
    private static final int CODE_BASE = 10_000;
    private static final int MAX_INT_DIGITS = 4;

    /** Room for what waits within six ( : at most three signs at each of seven depths, or, and. */
    private static final int STACK = 32;

    private final byte[] tape = new byte[MAX_TAPE];
    private int tapeLength = 0;
    private int faultPlace = NONE;
    private final World world = new World();
    private final Facts facts = new Facts(world);
    private final Text[] texts = new Text[MAX_LANDS];
    private Text spare = new Text();
    private final Reader reader = new Reader(tape);
    private final Months months = new Months(world, facts, texts);
    private final int[] formerBegun = new int[MAX_MONTH + 1];

    public CrescentCourt() {
        for (int land = 0; land < MAX_LANDS; land++) {
            texts[land] = new Text();
        }
    }

    public int feed(int a, int b, int c, int d, int e) {
        if (tapeLength + FEED_BYTES > MAX_TAPE) {
            return NONE;
        }
        putBytes(a);
        putBytes(b);
        putBytes(c);
        putBytes(d);
        putBytes(e);
        return tapeLength;
    }

    public int back(int n) {
        if (n < 0 || n > tapeLength) {
            return NONE;
        }
        tapeLength -= n;
        return tapeLength;
    }

    public int read(int land) {
        if (!world.isLand(land)) {
            return NONE;
        }
        int fault = reader.readInto(spare, tapeLength);
        tapeLength = 0;
        if (fault != NO_FAULT) {
            faultPlace = reader.from;
            return fault;
        }
        faultPlace = NONE;
        Text former = texts[land];
        texts[land] = spare;
        spare = former;
        forgetAnswers();
        return NO_FAULT;
    }

    public int place() {
        return faultPlace;
    }

    public int moon(int hour) {
        int number = world.moons;
        if (number >= MAX_MOONS || hour < 0 || hour >= HOURS) {
            return NONE;
        }
        if (number > 0 && hour <= world.hours[number - 1]) {
            return NONE;
        }
        world.hours[number] = hour;
        world.moons = number + 1;
        forgetAnswers();
        return number;
    }

    public int land(int shift, int evening) {
        int number = world.lands;
        if (number >= MAX_LANDS || shift < -MAX_SHIFT || shift > MAX_SHIFT || !isEvening(evening)) {
            return NONE;
        }
        world.shifts[number] = shift;
        world.firstEvenings[number] = evening;
        world.lands = number + 1;
        forgetAnswers();
        return number;
    }

    public boolean table(int land, int n) {
        if (!world.isLand(land) || n == 0 || n < NONE || n > MAX_CELLS) {
            return false;
        }
        Arrays.fill(world.cells[land], (byte) 0);
        world.cellCounts[land] = n == NONE ? 0 : n;
        forgetAnswers();
        return true;
    }

    public boolean cell(int land, int i, int v) {
        if (!world.isLand(land) || i < 0 || i >= world.cellCounts[land]) {
            return false;
        }
        if (v < UNSEEN || v > SURELY) {
            return false;
        }
        world.cells[land][i] = (byte) v;
        forgetAnswers();
        return true;
    }

    public boolean travel(int from, int to, int days) {
        if (!world.isLand(from) || !world.isLand(to) || from == to) {
            return false;
        }
        if (days < NONE || days > MAX_TRAVEL) {
            return false;
        }
        world.travelDays[from][to] = days == NONE ? NEVER : days;
        forgetAnswers();
        return true;
    }

    public int witness(int land) {
        int number = facts.witnesses;
        if (number >= MAX_WITNESSES || !world.isLand(land)) {
            return NONE;
        }
        facts.homes[number] = land;
        facts.witnesses = number + 1;
        return number;
    }

    public int report(int witness, int evening) {
        if (facts.count >= MAX_FACTS || !facts.isWitness(witness) || !isEvening(evening)) {
            return NONE;
        }
        return facts.addReport(witness, evening);
    }

    public int cloud(int land, int evening) {
        if (facts.count >= MAX_FACTS || !world.isLand(land) || !isEvening(evening)) {
            return NONE;
        }
        return facts.addCloud(land, evening);
    }

    public int age(int land, int evening) {
        if (!world.isLand(land) || !isEvening(evening)) {
            return NONE;
        }
        return world.ageOn(land, evening);
    }

    public int light(int land, int evening) {
        if (!world.isLand(land) || !isEvening(evening)) {
            return NONE;
        }
        return world.lightOn(land, evening);
    }

    public int verdict(int fact, int n) {
        if (!facts.canBeKnownBy(n) || fact < 0 || fact >= n) {
            return NONE;
        }
        facts.judge(n);
        return facts.verdicts[fact];
    }

    public int worth(int witness, int evening, int n) {
        if (!facts.canBeKnownBy(n) || !facts.isWitness(witness) || !isEvening(evening)) {
            return NONE;
        }
        facts.judge(n);
        return facts.worthOn(witness, evening);
    }

    public int begins(int land, int month, int n) {
        if (!isAsked(land, month, 0, n)) {
            return NONE;
        }
        months.standBy(n);
        return months.begun[land][month];
    }

    public int by(int land, int month, int n) {
        if (!isAsked(land, month, 1, n)) {
            return NONE;
        }
        months.standBy(n);
        return months.reasons[land][month];
    }

    public int heard(int land, int month, int i, int n) {
        if (!isAsked(land, month, 1, n) || i < 0) {
            return NONE;
        }
        months.standBy(n);
        return months.heardReport(land, month, i);
    }

    public int date(int land, int evening, int n) {
        if (!world.isLand(land) || !isEvening(evening) || !facts.canBeKnownBy(n)) {
            return NONE;
        }
        months.standBy(n);
        return months.dateOn(land, evening);
    }

    public int turn(int from, int month, int day, int to, int n) {
        if (!isAsked(from, month, 0, n) || !world.isLand(to) || day < 1 || day > MAX_DAY) {
            return NONE;
        }
        months.standBy(n);
        int evening = months.eveningOf(from, month, day);
        return evening == NONE ? NONE : months.dateOn(to, evening);
    }

    public int unlike(int one, int other, int a, int b, int n) {
        if (!world.isLand(one) || !world.isLand(other) || !facts.canBeKnownBy(n)) {
            return NONE;
        }
        if (!isEvening(a) || !isEvening(b) || a > b) {
            return NONE;
        }
        months.standBy(n);
        int evenings = 0;
        for (int evening = a; evening <= b; evening++) {
            if (months.dateOn(one, evening) != months.dateOn(other, evening)) {
                evenings++;
            }
        }
        return evenings;
    }

    public int changed(int land, int n, int m) {
        if (!world.isLand(land) || !facts.canBeKnownBy(n) || !facts.canBeKnownBy(m)) {
            return NONE;
        }
        months.standBy(n);
        System.arraycopy(months.begun[land], 0, formerBegun, 0, MAX_MONTH + 1);
        months.standBy(m);
        for (int month = 1; month <= MAX_MONTH; month++) {
            if (months.begun[land][month] != formerBegun[month]) {
                return month;
            }
        }
        return NONE;
    }

    public int count(int what) {
        switch (what) {
            case 0:
                return world.lands;
            case 1:
                return world.moons;
            case 2:
                return facts.witnesses;
            case 3:
                return facts.count;
            case 4:
                return countRules();
            case 5:
                return tapeLength;
            default:
                return NONE;
        }
    }

    private void putBytes(int word) {
        for (int shift = 24; shift >= 0; shift -= 8) {
            if (tapeLength < MAX_TAPE) {
                tape[tapeLength] = (byte) (word >> shift);
                tapeLength++;
            }
        }
    }

    private int countRules() {
        int rules = 0;
        for (int land = 0; land < MAX_LANDS; land++) {
            rules += texts[land].rules;
        }
        return rules;
    }

    /** Verdicts and MONTHS are kept between calls, but hang on all that is told but later FACTS. */
    private void forgetAnswers() {
        facts.judgedBy = NONE;
        months.standingBy = NONE;
    }

    private boolean isAsked(int land, int month, int leastMonth, int n) {
        return world.isLand(land) && month >= leastMonth && month <= MAX_MONTH
                && facts.canBeKnownBy(n);
    }

    private static boolean isEvening(int evening) {
        return evening >= 0 && evening < EVENINGS;
    }

    /** The MOONS, the LANDS, their TABLES and the TRAVEL between them. */
    private static final class World {
        final int[] hours = new int[MAX_MOONS];
        final int[] shifts = new int[MAX_LANDS];
        final int[] firstEvenings = new int[MAX_LANDS];
        final byte[][] cells = new byte[MAX_LANDS][MAX_CELLS];
        /** 0: the TABLE is MISSING. */
        final int[] cellCounts = new int[MAX_LANDS];
        final int[][] travelDays = new int[MAX_LANDS][MAX_LANDS];
        int moons = 0;
        int lands = 0;

        World() {
            for (int from = 0; from < MAX_LANDS; from++) {
                for (int to = 0; to < MAX_LANDS; to++) {
                    travelDays[from][to] = from == to ? 0 : NEVER;
                }
            }
        }

        boolean isLand(int land) {
            return land >= 0 && land < lands;
        }

        int ageOn(int land, int evening) {
            int hour = 24 * evening + 18 + shifts[land];
            for (int moon = moons - 1; moon >= 0; moon--) {
                if (hours[moon] <= hour) {
                    return hour - hours[moon];
                }
            }
            return NONE;
        }

        int lightOn(int land, int evening) {
            int age = ageOn(land, evening);
            if (age == NONE) {
                return UNSEEN;
            }
            int count = cellCounts[land];
            if (count == 0) {
                return MAYBE;
            }
            return cells[land][Math.min(age, count - 1)];
        }

        boolean isNewsThere(int from, int to, int evening, int byEvening) {
            return evening + travelDays[from][to] <= byEvening;
        }
    }

    /** The WITNESSES and the FACTS, with the verdicts on REPORTS as KNOWN by a number of FACTS. */
    private static final class Facts {
        private final World world;
        private final int[] evenings = new int[MAX_FACTS];
        /** By how many FACTS a CLOUD is KNOWN there on an EVENING; 0: by none. */
        private final int[][] cloudKnownBy = new int[MAX_LANDS][EVENINGS];
        final int[] homes = new int[MAX_WITNESSES];
        /** The WITNESS of a REPORT; NONE: a CLOUD. */
        final int[] reporters = new int[MAX_FACTS];
        final int[] verdicts = new int[MAX_FACTS];
        int witnesses = 0;
        int count = 0;
        int judgedBy = NONE;

        Facts(World world) {
            this.world = world;
        }

        boolean isWitness(int witness) {
            return witness >= 0 && witness < witnesses;
        }

        boolean canBeKnownBy(int n) {
            return n >= 0 && n <= count;
        }

        int addReport(int witness, int evening) {
            int fact = count;
            reporters[fact] = witness;
            evenings[fact] = evening;
            count++;
            return fact;
        }

        int addCloud(int land, int evening) {
            int fact = count;
            reporters[fact] = NONE;
            evenings[fact] = evening;
            count++;
            if (cloudKnownBy[land][evening] == 0) {
                cloudKnownBy[land][evening] = count;
            }
            return fact;
        }

        boolean isCloudy(int land, int evening, int n) {
            int knownBy = cloudKnownBy[land][evening];
            return knownBy != 0 && knownBy <= n;
        }

        void judge(int n) {
            if (judgedBy == n) {
                return;
            }
            for (int fact = 0; fact < n; fact++) {
                verdicts[fact] = reporters[fact] == NONE ? NONE : verdictOn(fact, n);
            }
            judgedBy = n;
        }

        private int verdictOn(int report, int n) {
            int home = homes[reporters[report]];
            int evening = evenings[report];
            int seenLight = world.lightOn(home, evening);
            if (seenLight == UNSEEN) {
                return FALSE_SIGHT;
            }
            boolean sure = seenLight == SURELY && !isCloudy(home, evening, n);
            return sure ? TRUE_SIGHT : OPEN_SIGHT;
        }

        int worthOn(int witness, int evening) {
            int sum = 2;
            for (int fact = 0; fact < judgedBy; fact++) {
                if (reporters[fact] == witness && evenings[fact] < evening) {
                    if (verdicts[fact] == TRUE_SIGHT) {
                        sum += 1;
                    } else if (verdicts[fact] == FALSE_SIGHT) {
                        sum -= 2;
                    }
                }
            }
            return sum < 0 ? 0 : sum;
        }

        boolean isHeard(int fact, int land, int onEvening, int forEvening) {
            int witness = reporters[fact];
            return evenings[fact] == forEvening && witness != NONE
                    && verdicts[fact] != FALSE_SIGHT
                    && world.isNewsThere(homes[witness], land, forEvening, onEvening);
        }
    }

    /** The RULES of a LAND: each one's kind, and its COND as postfix code. */
    private static final class Text {
        private final int[] kinds = new int[MAX_RULES];
        /** ends[r]: where the code of RULE r ends, and that of the next one starts. */
        private final int[] ends = new int[MAX_RULES];
        private final int[] code = new int[MAX_TOKENS];
        private final int[] stack = new int[STACK];
        private int length = 0;
        int rules = 0;

        void clearRules() {
            rules = 0;
            length = 0;
        }

        void openRule(int kind) {
            if (rules < MAX_RULES) {
                kinds[rules] = kind;
            }
        }

        void addCode(int what) {
            if (length < MAX_TOKENS) {
                code[length] = what;
                length++;
            }
        }

        void closeRule() {
            if (rules < MAX_RULES) {
                ends[rules] = length;
                rules++;
            }
        }

        boolean hasRule(int kind) {
            for (int rule = 0; rule < rules; rule++) {
                if (kinds[rule] == kind) {
                    return true;
                }
            }
            return false;
        }

        int firstThatHolds(int kind, int[] vars) {
            for (int rule = 0; rule < rules; rule++) {
                if (kinds[rule] == kind && holds(rule, vars)) {
                    return rule;
                }
            }
            return NONE;
        }

        private boolean holds(int rule, int[] vars) {
            int top = 0;
            for (int i = rule == 0 ? 0 : ends[rule - 1]; i < ends[rule]; i++) {
                int kind = code[i] - CODE_BASE;
                if (kind >= 0 && !isVar(kind)) {
                    if (top < 2) {
                        return false;
                    }
                    top--;
                    stack[top - 1] = apply(kind, stack[top - 1], stack[top]);
                } else if (top < STACK) {
                    stack[top] = kind < 0 ? code[i] : vars[kind];
                    top++;
                }
            }
            return top == 1 && stack[0] != 0;
        }

        private static int apply(int sign, int left, int right) {
            switch (sign) {
                case PLUS:
                    return left + right;
                case MINUS:
                    return left - right;
                case TIMES:
                    return left * right;
                case EQUAL:
                    return left == right ? 1 : 0;
                case UNEQUAL:
                    return left != right ? 1 : 0;
                case BELOW:
                    return left < right ? 1 : 0;
                case UP_TO:
                    return left <= right ? 1 : 0;
                case AND:
                    return left & right;
                case OR:
                    return left | right;
                default:
                    return 0;
            }
        }

        static boolean isVar(int kind) {
            return kind >= DAYS && kind <= MONTH;
        }
    }

    /** Turns bytes into a Text TOKEN by TOKEN, and stops at the first FAULT. */
    private static final class Reader {
        private static final int AT_RULE = 0;
        private static final int AT_IF = 1;
        private static final int AT_UNIT = 2;
        private static final int BEHIND_UNIT = 3;

        /** The signs, and, or and ( whose right sides are not yet whole. */
        private final int[] waiting = new int[STACK];
        private int waitingCount = 0;
        private final byte[] bytes;
        private int length = 0;
        private int at = 0;
        private int kind = END;
        private int value = 0;
        private int depth = 0;
        private boolean related = false;
        /** The first byte of the latest TOKEN, or of what is none: the place of a FAULT there. */
        int from = 0;

        Reader(byte[] bytes) {
            this.bytes = bytes;
        }

        int readInto(Text text, int textLength) {
            length = Math.min(textLength, bytes.length);
            at = 0;
            depth = 0;
            related = false;
            waitingCount = 0;
            text.clearRules();
            int state = AT_RULE;
            for (int tokens = 1; tokens <= MAX_TOKENS + 1; tokens++) {
                scanToken();
                if (kind == END && state == AT_RULE) {
                    return NO_FAULT;
                }
                int next = stateBehind(state);
                if (next == NONE) {
                    return SYNTAX;
                }
                if (tokens > MAX_TOKENS || lacksRoom(text)) {
                    return ROOM;
                }
                takeToken(text);
                state = next;
            }
            return ROOM;
        }

        /** NONE: with this TOKEN no text goes on. */
        private int stateBehind(int state) {
            switch (state) {
                case AT_RULE:
                    return isRuleWord() ? AT_IF : NONE;
                case AT_IF:
                    return kind == IF ? AT_UNIT : NONE;
                case AT_UNIT:
                    if (kind == OPEN) {
                        return AT_UNIT;
                    }
                    return kind == INT || Text.isVar(kind) ? BEHIND_UNIT : NONE;
                default:
                    return stateBehindUnit();
            }
        }

        private int stateBehindUnit() {
            if (kind == PLUS || kind == MINUS || kind == TIMES) {
                return AT_UNIT;
            }
            if (depth > 0) {
                return kind == CLOSE ? BEHIND_UNIT : NONE;
            }
            if (!related) {
                return isRelation() ? AT_UNIT : NONE;
            }
            if (kind == SEMICOLON) {
                return AT_RULE;
            }
            return kind == AND || kind == OR ? AT_UNIT : NONE;
        }

        private boolean lacksRoom(Text text) {
            return isRuleWord() && text.rules >= MAX_RULES || kind == OPEN && depth >= MAX_DEPTH;
        }

        private boolean isRuleWord() {
            return kind == BEGIN || kind == NOT || kind == BACK;
        }

        private boolean isRelation() {
            return kind >= EQUAL && kind <= UP_TO;
        }

        private void takeToken(Text text) {
            if (isRuleWord()) {
                text.openRule(kind);
            } else if (kind == INT) {
                text.addCode(value);
            } else if (Text.isVar(kind)) {
                text.addCode(CODE_BASE + kind);
            } else if (kind == OPEN) {
                depth++;
                keepWaiting();
            } else if (kind == CLOSE) {
                depth--;
                emitWaiting(text, bond(OR));
                waitingCount = Math.max(waitingCount - 1, 0);
            } else if (kind == SEMICOLON) {
                emitWaiting(text, bond(OR));
                related = false;
                text.closeRule();
            } else if (kind != IF) {
                emitWaiting(text, bond(kind));
                related = isRelation() || related && kind != AND && kind != OR;
                keepWaiting();
            }
        }

        private void keepWaiting() {
            if (waitingCount < STACK) {
                waiting[waitingCount] = kind;
                waitingCount++;
            }
        }

        /** What binds at least so tightly is whole now; a ( binds less than all, and stops this. */
        private void emitWaiting(Text text, int leastBond) {
            while (waitingCount > 0 && bond(waiting[waitingCount - 1]) >= leastBond) {
                waitingCount--;
                text.addCode(CODE_BASE + waiting[waitingCount]);
            }
        }

        private static int bond(int sign) {
            switch (sign) {
                case OR:
                    return 1;
                case AND:
                    return 2;
                case EQUAL:
                case UNEQUAL:
                case BELOW:
                case UP_TO:
                    return 3;
                case PLUS:
                case MINUS:
                    return 4;
                case TIMES:
                    return 5;
                default:
                    return 0;
            }
        }

        private void scanToken() {
            while (at < length && isBlank(bytes[at])) {
                at++;
            }
            from = at;
            if (at >= length) {
                kind = END;
            } else if (isLetter(bytes[at])) {
                scanWord();
            } else if (isDigit(bytes[at])) {
                scanInt();
            } else {
                scanSign();
            }
        }

        /** A WORD that is too long and one that no RULE has are one FAULT, at the same place. */
        private void scanWord() {
            while (at < length && isLetter(bytes[at])) {
                at++;
            }
            kind = 0;
            int start = 0;
            for (int i = 0; i < WORDS.length(); i++) {
                if (WORDS.charAt(i) == ' ') {
                    if (isWord(start, i)) {
                        return;
                    }
                    kind++;
                    start = i + 1;
                }
            }
            kind = BAD;
        }

        private boolean isWord(int start, int end) {
            if (end - start != at - from) {
                return false;
            }
            for (int i = start; i < end; i++) {
                if (WORDS.charAt(i) != bytes[from + i - start]) {
                    return false;
                }
            }
            return true;
        }

        private void scanInt() {
            value = 0;
            while (at < length && isDigit(bytes[at])) {
                value = value * 10 + bytes[at] - '0';
                at++;
            }
            kind = at - from > MAX_INT_DIGITS ? BAD : INT;
        }

        private void scanSign() {
            boolean equalsBehind = at + 1 < length && bytes[at + 1] == '=';
            kind = equalsBehind ? pairKind(bytes[at]) : BAD;
            if (kind != BAD) {
                at += 2;
                return;
            }
            kind = signKind(bytes[at]);
            at++;
        }

        private static int pairKind(byte first) {
            switch (first) {
                case '=':
                    return EQUAL;
                case '!':
                    return UNEQUAL;
                case '<':
                    return UP_TO;
                default:
                    return BAD;
            }
        }

        private static int signKind(byte sign) {
            switch (sign) {
                case ';':
                    return SEMICOLON;
                case '+':
                    return PLUS;
                case '-':
                    return MINUS;
                case '*':
                    return TIMES;
                case '<':
                    return BELOW;
                case '(':
                    return OPEN;
                case ')':
                    return CLOSE;
                default:
                    return BAD;
            }
        }

        private static boolean isBlank(byte b) {
            return b == 9 || b == 10 || b == 13 || b == 32;
        }

        private static boolean isLetter(byte b) {
            return b >= 'a' && b <= 'z';
        }

        private static boolean isDigit(byte b) {
            return b >= '0' && b <= '9';
        }
    }

    /** The MONTHS of all LANDS as KNOWN by a number of FACTS: every EVENING gone through anew. */
    private static final class Months {
        private final World world;
        private final Facts facts;
        private final Text[] texts;
        final int[][] begun = new int[MAX_LANDS][MAX_MONTH + 1];
        final int[][] reasons = new int[MAX_LANDS][MAX_MONTH + 1];
        /** The EVENING on which a MONTH began, or on which it was set back. */
        private final int[][] decided = new int[MAX_LANDS][MAX_MONTH + 1];
        private final int[] latest = new int[MAX_LANDS];
        /** By their kinds of TOKENS. */
        private final int[] vars = new int[MONTH + 1];
        /** A bit for each WITNESS that is HEARD: each counts once. */
        private int seers = 0;
        int standingBy = NONE;

        Months(World world, Facts facts, Text[] texts) {
            this.world = world;
            this.facts = facts;
            this.texts = texts;
        }

        /** The verdicts are asked for in any case: they may stand as KNOWN by another number. */
        void standBy(int n) {
            facts.judge(n);
            if (standingBy == n) {
                return;
            }
            for (int land = 0; land < world.lands; land++) {
                startMonths(land);
            }
            for (int evening = 0; evening < EVENINGS; evening++) {
                for (int land = 0; land < world.lands; land++) {
                    passEvening(land, evening);
                }
            }
            standingBy = n;
        }

        private void startMonths(int land) {
            Arrays.fill(begun[land], NONE);
            Arrays.fill(reasons[land], NONE);
            Arrays.fill(decided[land], NONE);
            begun[land][0] = world.firstEvenings[land];
            latest[land] = 0;
        }

        private void passEvening(int land, int evening) {
            int month = latest[land];
            int days = evening - begun[land][month];
            if (days == 30) {
                beginMonth(land, evening, BY_THIRTY_DAYS);
            } else if (days == 29) {
                tryToBegin(land, evening);
            } else if (days >= 1 && days <= 10 && reasons[land][month] == BY_THIRTY_DAYS) {
                tryToSetBack(land, evening, days);
            }
        }

        private void tryToBegin(int land, int evening) {
            Text text = texts[land];
            if (!text.hasRule(BEGIN)) {
                return;
            }
            vars[DAYS] = 29;
            vars[MONTH] = latest[land] + 1;
            askVars(land, evening, evening);
            if (text.firstThatHolds(NOT, vars) != NONE) {
                return;
            }
            int rule = text.firstThatHolds(BEGIN, vars);
            if (rule != NONE) {
                beginMonth(land, evening, rule);
            }
        }

        private void tryToSetBack(int land, int evening, int days) {
            Text text = texts[land];
            if (!text.hasRule(BACK)) {
                return;
            }
            int month = latest[land];
            int sooner = begun[land][month] - 1;
            vars[DAYS] = days;
            vars[MONTH] = month;
            askVars(land, evening, sooner);
            int rule = text.firstThatHolds(BACK, vars);
            if (rule != NONE) {
                begun[land][month] = sooner;
                reasons[land][month] = rule;
                decided[land][month] = evening;
            }
        }

        /** No MONTH is shorter than 29 DAYS, so the last one that fits is never reached. */
        private void beginMonth(int land, int evening, int reason) {
            int month = latest[land] + 1;
            if (month <= MAX_MONTH) {
                latest[land] = month;
                begun[land][month] = evening;
                reasons[land][month] = reason;
                decided[land][month] = evening;
            }
        }

        private void askVars(int land, int onEvening, int forEvening) {
            seers = 0;
            vars[SEEN] = 0;
            vars[WORTH] = 0;
            vars[BEST] = 0;
            for (int fact = 0; fact < facts.judgedBy; fact++) {
                if (facts.isHeard(fact, land, onEvening, forEvening)) {
                    countSeer(facts.reporters[fact], onEvening);
                }
            }
            vars[LIGHT] = world.lightOn(land, forEvening);
            vars[CLOUD] = facts.isCloudy(land, forEvening, facts.judgedBy) ? 1 : 0;
            vars[OTHERS] = countOthers(land, vars[MONTH], onEvening, forEvening);
        }

        private void countSeer(int witness, int onEvening) {
            int bit = 1 << witness;
            if ((seers & bit) != 0) {
                return;
            }
            seers |= bit;
            int itsWorth = facts.worthOn(witness, onEvening);
            vars[SEEN]++;
            vars[WORTH] += itsWorth;
            vars[BEST] = Math.max(vars[BEST], itsWorth);
        }

        private int countOthers(int land, int month, int onEvening, int forEvening) {
            int others = 0;
            for (int other = 0; other < world.lands; other++) {
                if (other != land && month <= latest[other]) {
                    int evening = begun[other][month];
                    if (evening <= forEvening
                            && world.isNewsThere(other, land, evening, onEvening)) {
                        others++;
                    }
                }
            }
            return others;
        }

        /** A MONTH's REPORTS are asked for the EVENING on which it begins, set back or not. */
        int heardReport(int land, int month, int i) {
            if (begun[land][month] == NONE) {
                return NONE;
            }
            int left = i;
            for (int fact = 0; fact < facts.judgedBy; fact++) {
                if (facts.isHeard(fact, land, decided[land][month], begun[land][month])) {
                    if (left == 0) {
                        return fact;
                    }
                    left--;
                }
            }
            return NONE;
        }

        int dateOn(int land, int evening) {
            for (int month = latest[land]; month >= 0; month--) {
                int first = begun[land][month];
                if (first <= evening) {
                    return 100 * month + evening - first + 1;
                }
            }
            return NONE;
        }

        /** NONE: the MONTH has no such day by the last EVENING. */
        int eveningOf(int land, int month, int day) {
            if (begun[land][month] == NONE) {
                return NONE;
            }
            int evening = begun[land][month] + day - 1;
            if (!isEvening(evening)) {
                return NONE;
            }
            boolean isOver = month < latest[land] && evening >= begun[land][month + 1];
            return isOver ? NONE : evening;
        }
    }
}
