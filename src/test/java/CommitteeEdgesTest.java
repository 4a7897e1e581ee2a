/** Promises 30 to 38 at their edges: kin, the text of the rules, votes, and what they make of works. */
public final class CommitteeEdgesTest {
    private static final int BAD = LifeList.BAD, NOT = LifeList.NOT, FULL = LifeList.FULL;
    private static final int LEAST = Integer.MIN_VALUE, MOST = Integer.MAX_VALUE;
    private static final long EIGHT = 0x7070707070707070L;
    private static final Edges SOME = States.SOME, ALL = States.ALL, NOTHING = States.NOTHING;

    public static void main(String[] args) {
        promise30();
        promise31();
        promise31Bytes();
        promise31Full();
        promise32Clauses();
        promise32EachByte();
        promise32Blanks();
        promise32Numbers();
        promise32Ends();
        promise32RulesStay();
        promise33();
        promise33KindsAbove();
        promise33LaterTexts();
        promise34();
        promise34Order();
        promise34Shares();
        promise34LeftOut();
        promise34AsTheyAreThen();
        promise35();
        promise36();
        promise36Latest();
        promise37();
        promise38();
        Checks.end();
    }

    private static void promise30() {
        SOME.range("member", 0, 7, (x, n) -> x.kin(n, 1));
        SOME.bits("owners", 20, (x, n) -> x.kin(3, n));
        SOME.taken("none at first", 0, x -> x.kin(3, 1));
        SOME.taken("what it was", 1 << 4, x -> x.kin(0, 0));
        SOME.taken("what it was", 1 << 5 | 1, x -> x.kin(7, 1));
        SOME.shown("of no owners", 0, x -> x.kin(0, 0), x -> x.kin(0, 1));
        SOME.shown("of all owners", (1 << 20) - 1, x -> x.kin(7, (1 << 20) - 1), x -> x.kin(7, 0));
        SOME.shown("of the last owner", 1 << 19, x -> x.kin(7, 1 << 19), x -> x.kin(7, 0));
        SOME.shown("in place of what it was", 2, x -> x.kin(0, 2), x -> x.kin(0, 0));
        SOME.shown("another member's stay", 1 << 4, x -> x.kin(1, 2), x -> x.kin(0, 0));
    }

    private static void promise31() {
        NOTHING.range("n", 1, 8, (x, n) -> x.type(EIGHT, n));
        SOME.range("n", 1, 8, (x, n) -> x.type(EIGHT, n));
        for (int i = 1; i <= 8; i++) {
            int n = i;
            NOTHING.taken("how many it has", n, x -> x.type(EIGHT, n));
            SOME.taken("behind what stands there", 6 + n, x -> x.type(EIGHT, n));
        }
        NOTHING.refused("none", BAD, x -> x.type(0, 0));
        NOTHING.refused("n below 0", BAD, x -> x.type(EIGHT, -8));
        LifeList x = new LifeList();
        Checks.due("of these the highest first", x.type(0x70332c322f33L, 6), 6);
        Checks.due("p3,2/3", x.rules(), 1);
        Checks.due("the lowest bytes alone", x.type(0x7676767676207034L, 2), 2);
        Checks.due("comes behind", x.type(0x2c312f32L, 4), 6);
        Checks.due("p4,1/2", x.rules(), 1);
        Checks.due("4", x.rule(0, 0), 4);
        Checks.due("1", x.rule(0, 1), 1);
        Checks.due("2", x.rule(0, 2), 2);
    }

    private static void promise31Bytes() {
        for (int i = 1; i <= 8; i++) {
            int n = i;
            for (int j = 0; j < n; j++) {
                int shift = 8 * j;
                long others = EIGHT & ~(255L << shift);
                int[] wrong = {0, 31, 127, 128, 255};
                for (int one : wrong) {
                    SOME.refused("byte " + one + " at " + j + " of " + n, BAD,
                            x -> x.type(others | (long) one << shift, n));
                }
                SOME.taken("byte 32 at " + j + " of " + n, 6 + n, x -> x.type(others | 32L << shift, n));
                SOME.taken("byte 126 at " + j + " of " + n, 6 + n, x -> x.type(others | 126L << shift, n));
            }
            if (n < 8) {
                SOME.taken("bytes above " + n + " are none of these", 6 + n, x -> x.type(EIGHT >>> 64 - 8 * n, n));
                SOME.taken("bytes above " + n + " are none of these", 6 + n,
                        x -> x.type(-1L << 8 * n | EIGHT >>> 64 - 8 * n, n));
            }
        }
    }

    private static LifeList typed(int length) {
        LifeList x = new LifeList();
        for (int i = 0; i < length; i++) {
            x.type('a' + i % 26, 1);
        }
        return x;
    }

    private static void promise31Full() {
        for (int i = 1; i <= 8; i++) {
            int n = i;
            Edges room = new Edges("room for " + n, () -> typed(50 - n));
            room.taken("the last " + n, 50, x -> x.type(EIGHT, n));
            if (n < 8) {
                room.refused("one more than that", FULL, x -> x.type(EIGHT, n + 1));
                room.refused("BAD ahead of FULL, a byte", BAD, x -> x.type(EIGHT & -256L | 31, n + 1));
            }
            room.refused("BAD ahead of FULL, n", BAD, x -> x.type(EIGHT, 9));
            ALL.refused("no room for " + n, FULL, x -> x.type(EIGHT, n));
            ALL.refused("BAD ahead of FULL", BAD, x -> x.type(EIGHT & -256L | 127, n));
        }
        ALL.refused("BAD ahead of FULL, n", BAD, x -> x.type(EIGHT, 0));
        ALL.shown("empty then", 1, LifeList::rules, x -> x.type('p', 1));
        LifeList x = typed(50);
        Checks.due("a fault", x.rules(), -20);
        Checks.due("empty then, too", x.type(EIGHT, 8), 8);
    }

    private static int rulesOf(String text) {
        LifeList x = new LifeList();
        Checks.type(x, text);
        return x.rules();
    }

    private static void faultDue(String text, int place) {
        Checks.due("fault of '" + text + "'", rulesOf(text), -20 - place);
    }

    private static void clausesDue(String text, int clauses) {
        Checks.due("clauses of '" + text + "'", rulesOf(text), clauses);
    }

    private static void promise32Clauses() {
        NOTHING.taken("an empty tape", -20, LifeList::rules);
        SOME.taken("one clause", 1, LifeList::rules);
        ALL.taken("four clauses", 4, LifeList::rules);
        clausesDue("p1,1/1", 1);
        clausesDue("p8,9/9", 1);
        clausesDue("r8,1/9;d1,9/9", 2);
        clausesDue("v1,1/1;v1,1/1;v1,1/1", 3);
        clausesDue("p1,1/1;v1,1/1;d1,1/1;r1,1/1", 4);
        clausesDue("p1,1/1;p1,1/1;p1,1/1;p1,1/1", 4);
        faultDue("p1,1/1;v1,1/1;d1,1/1;r1,1/1;", 27);
        faultDue("p1,1/1;v1,1/1;d1,1/1;r1,1/1;p1,1/1", 27);
        faultDue("p1,1/1;v1,1/1;d1,1/1;r1,1/1 ;p1,1/1", 28);
        faultDue("p1,1/1;v1,1/1;d1,1/1;r1,1/1p", 27);
        faultDue("p1,1/1;v1,1/1;d1,1/1;r9,1/1;", 22);
        faultDue("p1,1/1;", 7);
        faultDue("p1,1/1;;v1,1/1", 7);
        faultDue(";p1,1/1", 0);
        faultDue("p1,1/1v1,1/1", 6);
        faultDue("p1,1/1,v1,1/1", 6);
        faultDue("pv1,1/1", 1);
    }

    /** Of p3,2/3 each byte in turn is any one that can be typed. */
    private static void promise32EachByte() {
        String well = "p3,2/3";
        for (int at = 0; at <= well.length(); at++) {
            for (char one = 32; one <= 126; one++) {
                String behind = at < well.length() ? well.substring(at + 1) : "";
                Checks.due("byte " + at + " is " + one, rulesOf(well.substring(0, at) + one + behind), dueWith(at, one));
            }
        }
    }

    private static int dueWith(int at, char one) {
        boolean isDigit = one >= '0' && one <= '9';
        int wrong = -20 - at;
        int blank = wrong - 1;
        switch (at) {
            case 0:
                return one == ' ' ? blank : "pvdr".indexOf(one) >= 0 ? 1 : wrong;
            case 1:
                return one == ' ' ? blank : one >= '1' && one <= '8' ? 1 : wrong;
            case 2:
                return one == ' ' ? blank : one == ',' ? 1 : isDigit ? -21 : wrong;
            case 3:
                return one == ' ' ? blank : one >= '1' && one <= '3' ? 1 : one >= '4' && one <= '9' ? -25 : wrong;
            case 4:
                return one == ' ' ? blank : one == '/' ? 1 : isDigit ? -23 : wrong;
            case 5:
                return one == ' ' ? blank : one >= '2' && one <= '9' ? 1 : wrong;
            default:
                return one == ' ' ? 1 : one == ';' ? -27 : isDigit ? -25 : wrong;
        }
    }

    private static void promise32Blanks() {
        String well = "p3,2/3;v4,1/2";
        for (int at = 0; at <= well.length(); at++) {
            String ahead = well.substring(0, at);
            String behind = well.substring(at);
            clausesDue(ahead + " " + behind, 2);
            clausesDue(ahead + "          " + behind, 2);
            faultDue(ahead + "~" + behind, at);
            faultDue(ahead + "   ~" + behind, at + 3);
            boolean isWhole = at == well.length() || well.charAt(at) == ';';
            if (isWhole) {
                clausesDue(ahead, at < well.length() ? 1 : 2);
                clausesDue(ahead + "  ", at < well.length() ? 1 : 2);
            } else {
                faultDue(ahead, at);
                faultDue(ahead + "  ", at + 2);
            }
        }
    }

    private static void promise32Numbers() {
        for (int first = 0; first <= 10; first++) {
            for (int second = 0; second <= 10; second++) {
                boolean isFirst = first >= 1 && first <= 9;
                boolean isSecond = second >= first && second <= 9;
                String text = "p1," + first + "/" + second;
                Checks.due(text, rulesOf(text), !isFirst ? -23 : !isSecond ? -25 : 1);
            }
        }
        for (int members = 0; members <= 100; members++) {
            String text = "d" + members + ",1/1";
            Checks.due(text, rulesOf(text), members >= 1 && members <= 8 ? 1 : -21);
        }
        faultDue("p1 2,1/1", 3);
        faultDue("p1 ,1 1/1", 6);
        faultDue("p1,1/1 1", 7);
        faultDue("p 12,1/1", 2);
        faultDue("p1, 10/1", 4);
        faultDue("p1,1/ 10", 6);
        faultDue("p2147483649,1/1", 1);
        faultDue("p4294967297,1/1", 1);
        faultDue("p18446744073709551617,1/1", 1);
        faultDue("p1,4294967297/1", 3);
        faultDue("p1,1/4294967297", 5);
        faultDue("p-1,1/1", 1);
        faultDue("p+1,1/1", 1);
        faultDue("p,1/1", 1);
        faultDue("p1,/1", 3);
        faultDue("p1,1/;", 5);
        clausesDue("p03,1/1", 1);
        clausesDue("p1,0002/00000000000000000000000000000000000000003", 1);
        faultDue("p00,1/1", 1);
        faultDue("p09,1/1", 1);
        faultDue("p1,02/01", 6);
    }

    private static void promise32Ends() {
        StringBuilder blanks = new StringBuilder();
        for (int n = 0; n <= 50; n++) {
            faultDue(blanks.toString(), n);
            if (n < 50) {
                faultDue(blanks + "x", n);
                faultDue(blanks + "p", n + 1);
            }
            blanks.append(' ');
        }
        String far = "                                            ";
        clausesDue(far + "p1,1/1", 1);
        faultDue(far + "p1,1/0", 49);
        faultDue(far + "p1,1/ ", 50);
        clausesDue("p1,1/1" + far, 1);
        faultDue("p1,1/1" + far.substring(1) + ";", 50);
    }

    private static void rulesDue(String what, LifeList x, int... due) {
        for (int i = 0; i < due.length; i++) {
            Checks.due(what + ", kind " + i / 3 + " " + i % 3, x.rule(i / 3, i % 3), due[i]);
        }
    }

    private static void promise32RulesStay() {
        String[] faults = {"", "x", "p4,1/2;", "p4,1/2;v5,5/4", "p4,1/2;v5,1/2;d6,1/2;r7,1/2;", "v5,1/2;d6,1/2 r", "p9,1/2"};
        for (String text : faults) {
            LifeList x = new LifeList();
            Checks.type(x, text);
            Checks.yes("a fault of " + text, x.rules() <= -20);
            rulesDue("first rules stay, " + text, x, 3, 2, 3, 3, 2, 3, 3, 2, 3, 3, 2, 3);
            Checks.due("the tape is empty then", x.type('p', 1), 1);
            x.rules();
            Checks.type(x, "p8,4/5;v7,3/5;d6,2/5;r5,1/5");
            Checks.due("four", x.rules(), 4);
            Checks.type(x, text);
            Checks.yes("a fault of " + text, x.rules() <= -20);
            rulesDue("later rules stay, " + text, x, 8, 4, 5, 7, 3, 5, 6, 2, 5, 5, 1, 5);
            Checks.due("the tape is empty", x.rules(), -20);
        }
        LifeList y = new LifeList();
        Checks.type(y, "v7,3/5");
        y.rules();
        Checks.due("rules() again reads an empty tape", y.rules(), -20);
        rulesDue("and changes none", y, 1, 1, 1, 7, 3, 5);
    }

    private static void promise33() {
        SOME.range("kind", 0, 3, (x, n) -> x.rule(n, 0));
        SOME.range("what", 0, 2, (x, n) -> x.rule(3, n));
        NOTHING.range("kind", 0, 3, (x, n) -> x.rule(n, 2));
        NOTHING.range("what", 0, 2, (x, n) -> x.rule(0, n));
        SOME.asked("what is typed is not yet told", 3, x -> x.rule(1, 0));
        SOME.shown("told then", 2, LifeList::rules, x -> x.rule(1, 0));
    }

    /** Each set of kinds that a text may tell; what is not told is as above, or 1, 1/1. */
    private static void promise33KindsAbove() {
        int[][] told = {{2, 1, 2}, {3, 2, 3}, {4, 3, 4}, {5, 4, 5}};
        int[] one = {1, 1, 1};
        for (int set = 1; set < 16; set++) {
            StringBuilder text = new StringBuilder();
            for (int kind = 3; kind >= 0; kind--) {
                if ((set >> kind & 1) == 1) {
                    text.append(text.length() == 0 ? "" : ";").append("pvdr".charAt(kind));
                    text.append(told[kind][0]).append(',').append(told[kind][1]).append('/').append(told[kind][2]);
                }
            }
            int[] p = (set & 1) != 0 ? told[0] : one;
            int[] v = (set & 2) != 0 ? told[1] : p;
            int[] d = (set & 4) != 0 ? told[2] : p;
            int[] r = (set & 8) != 0 ? told[3] : d;
            LifeList x = new LifeList();
            Checks.type(x, text.toString());
            Checks.due("clauses of " + text, x.rules(), Integer.bitCount(set));
            rulesDue(text.toString(), x, p[0], p[1], p[2], v[0], v[1], v[2], d[0], d[1], d[2], r[0], r[1], r[2]);
        }
        LifeList y = new LifeList();
        Checks.type(y, "d2,1/2;p3,1/3;d4,1/4;p5,1/5");
        Checks.due("told twice", y.rules(), 4);
        rulesDue("the latter holds", y, 5, 1, 5, 5, 1, 5, 4, 1, 4, 4, 1, 4);
    }

    /** A text is all the rules there are: what it does not tell is not as in the text ahead of it. */
    private static void promise33LaterTexts() {
        String[] clauses = {"p2,1/2", "v3,2/3", "d4,3/4", "r5,4/5"};
        int[][] due = {{2, 1, 2, 2, 1, 2, 2, 1, 2, 2, 1, 2}, {1, 1, 1, 3, 2, 3, 1, 1, 1, 1, 1, 1},
            {1, 1, 1, 1, 1, 1, 4, 3, 4, 4, 3, 4}, {1, 1, 1, 1, 1, 1, 1, 1, 1, 5, 4, 5}};
        for (String first : clauses) {
            for (int second = 0; second < 4; second++) {
                LifeList x = new LifeList();
                Checks.type(x, first);
                x.rules();
                Checks.type(x, clauses[second]);
                Checks.due("one clause", x.rules(), 1);
                rulesDue(clauses[second] + " behind " + first, x, due[second]);
            }
        }
    }

    private static void promise34() {
        SOME.range("work", 0, 3, (x, n) -> x.vote(n, 5000, 14, 0, false));
        SOME.range("day", 0, 9999, (x, n) -> x.vote(0, n, 14, 0, false));
        SOME.bits("for", 8, (x, n) -> x.vote(1, 5000, n, 0, false));
        SOME.bits("against", 8, (x, n) -> x.vote(1, 5000, 0, n, true));
        for (int i = 0; i < 8; i++) {
            int bit = 1 << i;
            SOME.refused("one is for and against " + i, BAD, x -> x.vote(1, 5000, bit | 1, bit | 128, false));
        }
        SOME.refused("all are for and against", BAD, x -> x.vote(1, 5000, 255, 255, false));
        SOME.refused("none is told", NOT, x -> x.vote(1, 5000, 0, 0, false));
        SOME.refused("none is told, to strike", NOT, x -> x.vote(1, 5000, 0, 0, true));
        SOME.refused("the only one is kin", NOT, x -> x.vote(0, 100, 1, 0, false));
        SOME.refused("both are kin", NOT, x -> x.vote(0, 100, 1, 128, false));
        SOME.taken("it passes", 1, x -> x.vote(1, 5000, 7, 0, false));
        SOME.taken("it does not", 0, x -> x.vote(1, 5000, 1, 6, false));
        SOME.shown("kept, passed or not", 5, x -> x.vote(1, 5000, 1, 6, false), x -> x.count(4));
        NOTHING.refused("on nothing", BAD, x -> x.vote(0, 0, 7, 0, false));
    }

    private static void promise34Order() {
        SOME.bad("BAD ahead of NOT, work", (x, n) -> x.vote(n, 0, 0, 0, false), -1, 4);
        SOME.bad("BAD ahead of NOT, day", (x, n) -> x.vote(0, n, 0, 0, false), -1, 10000);
        SOME.bad("BAD ahead of NOT, for", (x, n) -> x.vote(0, 100, n, 1, false), 256, -2);
        SOME.bad("BAD ahead of NOT, against", (x, n) -> x.vote(0, 100, 1, n, false), 256, -2);
        SOME.refused("BAD ahead of NOT, kin for and against", BAD, x -> x.vote(0, 100, 1, 1, false));
        ALL.refused("a 61st", FULL, x -> x.vote(0, 0, 14, 0, false));
        ALL.refused("a 61st that would not pass", FULL, x -> x.vote(0, 0, 2, 0, false));
        ALL.refused("NOT ahead of FULL, none is told", NOT, x -> x.vote(0, 0, 0, 0, false));
        ALL.refused("NOT ahead of FULL, kin alone", NOT, x -> x.vote(4, 0, 1, 0, false));
        ALL.bad("BAD ahead of FULL, work", (x, n) -> x.vote(n, 0, 14, 0, false), -1, 40, LEAST, MOST);
        ALL.bad("BAD ahead of FULL, day", (x, n) -> x.vote(0, n, 14, 0, false), -1, 10000, LEAST, MOST);
        ALL.bad("BAD ahead of FULL, for", (x, n) -> x.vote(0, 0, n, 1, false), 256, -2, 1);
        LifeList x = new LifeList();
        Checks.painting(x);
        for (int i = 0; i < 60; i++) {
            Checks.due("kept", x.vote(0, 9999 - i, i % 2 == 0 ? 7 : 1, 0, false), 1 - i % 2);
            Checks.due("how many", x.count(4), i + 1);
        }
        Checks.due("a 61st", x.vote(0, 0, 7, 0, false), FULL);
        Checks.due("60", x.count(4), 60);
    }

    /** All rules, and all numbers of members for and against. */
    private static void promise34Shares() {
        for (int members = 1; members <= 8; members++) {
            for (int part = 1; part <= 9; part++) {
                for (int whole = part; whole <= 9; whole++) {
                    LifeList x = new LifeList();
                    Checks.painting(x);
                    Checks.type(x, "p" + members + "," + part + "/" + whole);
                    x.rules();
                    for (int fors = 0; fors <= 8; fors++) {
                        int against = (fors + members + part) % (9 - fors);
                        int voted = fors + against;
                        int due = voted == 0 ? NOT : voted >= members && fors * whole >= part * voted ? 1 : 0;
                        int forBits = (1 << fors) - 1;
                        int againstBits = (1 << voted) - 1 & ~forBits;
                        Checks.due("p" + members + "," + part + "/" + whole + ", " + fors + " of " + voted,
                                x.vote(0, 0, forBits, againstBits, false), due);
                    }
                }
            }
        }
        int[][] due = {{3, 0, 1}, {2, 0, 0}, {2, 1, 1}, {1, 2, 0}, {4, 2, 1}, {3, 2, 0}, {5, 3, 0}, {6, 2, 1}, {0, 3, 0}};
        LifeList x = new LifeList();
        Checks.painting(x);
        for (int[] row : due) {
            int fors = (1 << row[0]) - 1;
            int against = (1 << row[0] + row[1]) - 1 & ~fors;
            Checks.due("3, 2/3: " + row[0] + " for, " + row[1] + " against", x.vote(0, 0, fors, against, false), row[2]);
        }
    }

    private static void promise34LeftOut() {
        int[][] years = {{1910, 1915, 1915, 1920}, {1910, 1920, 1910, 1920}, {1910, 1910, 1920, 1920}};
        int[][] due = {{999, 0}, {1000, 1}, {1099, 1}, {1500, 1}, {2000, 1}, {2099, 1}, {2100, 0}, {0, 0}, {9999, 0}};
        for (int[] held : years) {
            LifeList x = new LifeList();
            Checks.painting(x);
            Checks.painting(x);
            x.holding(0, 19, held[0], held[1], held[2], held[3]);
            x.kin(5, 1 << 19 | 1);
            for (int[] row : due) {
                int last = x.count(4);
                Checks.due("three, one may be kin, day " + row[0], x.vote(0, row[0], 32 | 3, 0, false), 1 - row[1]);
                Checks.due("who voted, day " + row[0], x.votes(last, 3), row[1] == 1 ? 3 : 35);
                Checks.due("who was left out, day " + row[0], x.votes(last, 4), row[1] == 1 ? 32 : 0);
                Checks.due("another work", x.vote(1, row[0], 32 | 3, 0, false), 1);
            }
            int last = x.count(4);
            Checks.due("kin against does not count", x.vote(0, 1500, 6, 32 | 1, false), 1);
            Checks.due("who voted", x.votes(last, 3), 7);
            Checks.due("kin for does not count", x.vote(0, 1500, 32 | 1, 6, false), 0);
            Checks.due("kin that did not vote is not left out", x.vote(0, 1500, 7, 0, false), 1);
            Checks.due("kin that did not vote is not left out", x.votes(last + 2, 4), 0);
        }
        LifeList y = new LifeList();
        Checks.painting(y);
        y.holding(0, 0, 1900, 1900, 1900, 1900);
        y.holding(0, 1, 1999, 1999, 1999, 1999);
        y.kin(0, 1);
        y.kin(1, 2);
        int[][] ends = {{0, 1}, {99, 1}, {100, 0}, {9899, 0}, {9900, 2}, {9999, 2}};
        for (int[] row : ends) {
            int last = y.count(4);
            y.vote(0, row[0], 7, 0, false);
            Checks.due("left out on day " + row[0], y.votes(last, 4), row[1]);
        }
        for (int member = 0; member < 8; member++) {
            y.kin(member, 3);
        }
        Checks.due("all are kin", y.vote(0, 99, 15, 240, false), NOT);
        Checks.due("a day later none is", y.vote(0, 100, 15, 240, false), 0);
    }

    private static void promise34AsTheyAreThen() {
        LifeList x = new LifeList();
        Checks.painting(x);
        Checks.due("by the first rules", x.vote(0, 100, 3, 0, false), 0);
        Checks.type(x, "p2,1/1");
        Checks.due("rules that are but typed", x.vote(0, 100, 3, 0, false), 0);
        x.rules();
        Checks.due("by the later rules", x.vote(0, 100, 3, 0, false), 1);
        Checks.due("the first stays as it was", x.votes(0, 2), 0);
        x.kin(0, 1);
        Checks.due("kin of one who does not hold it", x.vote(0, 100, 3, 0, false), 1);
        x.holding(0, 0, 1901, 1901, 1901, 1901);
        Checks.due("who holds it now", x.vote(0, 100, 3, 0, false), 0);
        Checks.due("the one ahead stays as it was", x.votes(3, 3), 3);
        x.unhold();
        Checks.due("who does no more", x.vote(0, 100, 3, 0, false), 1);
        Checks.due("the one ahead stays as it was", x.votes(4, 4), 1);
        Checks.type(x, "p8,1/1");
        x.rules();
        Checks.due("later rules change no vote", x.votes(5, 2), 1);
        Checks.due("nor what it made", x.state(0, 9999, 6), 1);
    }

    private static void promise35() {
        SOME.range("i", 0, 3, (x, n) -> x.votes(n, 0));
        SOME.range("what", 0, 5, (x, n) -> x.votes(0, n));
        ALL.range("i", 0, 59, (x, n) -> x.votes(n, 5));
        NOTHING.refused("none is there", BAD, x -> x.votes(0, 0));
        int[][] due = {{0, 100, 1, 14, 1, 0}, {3, 200, 1, 14, 0, 0}, {1, 300, 1, 14, 0, 1}, {2, 400, 0, 14, 0, 0}};
        for (int i = 0; i < due.length; i++) {
            for (int j = 0; j < 6; j++) {
                int vote = i;
                int what = j;
                SOME.asked("vote " + i + " " + j, due[i][j], x -> x.votes(vote, what));
            }
        }
        int[] last = {29, 59, 1, 15, 0, 0};
        for (int j = 0; j < 6; j++) {
            int what = j;
            ALL.asked("the last vote " + j, last[j], x -> x.votes(59, what));
        }
        LifeList x = new LifeList();
        Checks.painting(x);
        x.vote(0, 0, 0, 255, true);
        x.vote(0, 9999, 255, 0, false);
        int[][] ends = {{0, 0, 0, 255, 0, 1}, {0, 9999, 1, 255, 0, 0}};
        for (int j = 0; j < 6; j++) {
            Checks.due("the first day " + j, x.votes(0, j), ends[0][j]);
            Checks.due("the last day " + j, x.votes(1, j), ends[1][j]);
        }
    }

    private static void promise36() {
        SOME.range("work", 0, 3, (x, n) -> x.state(n, 9999, 4));
        SOME.range("day", 0, 9999, (x, n) -> x.state(0, n, 4));
        SOME.range("n", 0, 4, (x, n) -> x.state(0, 9999, n));
        ALL.range("work", 0, 39, (x, n) -> x.state(n, 9999, 60));
        ALL.range("n", 0, 60, (x, n) -> x.state(0, 9999, n));
        NOTHING.refused("no work", BAD, x -> x.state(0, 0, 0));
        int[][] due = {{0, 99, 4, 0}, {0, 100, 4, 1}, {0, 9999, 4, 1}, {0, 100, 0, 0}, {0, 100, 1, 1}, {3, 200, 1, 0},
            {3, 200, 2, 1}, {3, 199, 2, 0}, {1, 300, 2, 0}, {1, 300, 3, 2}, {1, 299, 3, 0}, {1, 9999, 4, 2}, {2, 9999, 4, 0}};
        for (int[] row : due) {
            SOME.asked("work " + row[0] + " day " + row[1] + " n " + row[2], row[3],
                    x -> x.state(row[0], row[1], row[2]));
        }
    }

    private static void promise36Latest() {
        LifeList x = new LifeList();
        Checks.painting(x);
        int[][] votes = {{0, 7, 0}, {0, 7, 1}, {9999, 7, 0}, {9999, 3, 1}, {9998, 7, 1}, {9999, 7, 1}, {0, 7, 0}};
        for (int[] row : votes) {
            x.vote(0, row[0], row[1], 0, row[2] == 1);
        }
        int[][] due = {{0, 0, 0}, {0, 1, 1}, {0, 2, 2}, {0, 6, 2}, {0, 7, 1}, {9997, 7, 1}, {9998, 4, 2}, {9998, 5, 2},
            {9998, 7, 2}, {9999, 2, 2}, {9999, 3, 1}, {9999, 4, 1}, {9999, 5, 1}, {9999, 6, 2}, {9999, 7, 2}};
        for (int[] row : due) {
            Checks.due("day " + row[0] + " n " + row[1], x.state(0, row[0], row[1]), row[2]);
        }
    }

    private static void promise37() {
        SOME.range("day", 0, 9999, (x, n) -> x.unsure(n, 4));
        SOME.range("n", 0, 4, (x, n) -> x.unsure(9999, n));
        NOTHING.range("day", 0, 9999, (x, n) -> x.unsure(n, 0));
        NOTHING.range("n", 0, 0, (x, n) -> x.unsure(0, n));
        ALL.range("n", 0, 60, (x, n) -> x.unsure(9999, n));
        SOME.asked("a print in, of a drawing that is not", 1, x -> x.unsure(200, 4));
        SOME.asked("a day ahead", 0, x -> x.unsure(199, 4));
        SOME.asked("a vote ahead", 0, x -> x.unsure(200, 1));
        LifeList x = new LifeList();
        Checks.painting(x);
        x.version(0, 300, 200, 1, 1850, 1860);
        x.version(1, 300, 200, 1, 1850, 1860);
        x.print(2, false, 300, 200, 1, 1850, 1860);
        // Work, day, whether to strike, and how many are unsure behind it.
        int[][] steps = {{3, 10, 0, 1}, {2, 10, 0, 2}, {1, 10, 0, 3}, {0, 10, 0, 0}, {0, 20, 1, 3}, {1, 20, 1, 2},
            {3, 20, 1, 1}, {2, 20, 1, 0}, {3, 30, 0, 1}, {0, 30, 0, 1}, {2, 30, 0, 2}, {1, 30, 0, 0}};
        for (int i = 0; i < steps.length; i++) {
            x.vote(steps[i][0], steps[i][1], 7, 0, steps[i][2] == 1);
            Checks.due("step " + i, x.unsure(9999, i + 1), steps[i][3]);
        }
        for (int i = 0; i < steps.length; i++) {
            Checks.due("as of step " + i, x.unsure(9999, i + 1), steps[i][3]);
        }
        Checks.due("as of none", x.unsure(9999, 0), 0);
        Checks.due("on day 9", x.unsure(9, 12), 0);
        Checks.due("on day 10", x.unsure(10, 12), 0);
        Checks.due("on day 19, some known", x.unsure(19, 3), 3);
        Checks.due("on day 20", x.unsure(20, 12), 0);
        Checks.due("on day 20, some known", x.unsure(20, 5), 3);
    }

    private static void promise38() {
        SOME.range("leaning", 0, 3, (x, n) -> x.leaning(n));
        ALL.range("leaning", 0, 39, (x, n) -> x.leaning(n));
        int[] some = {1, 0, 1, 0};
        for (int i = 0; i < 4; i++) {
            int work = i;
            SOME.asked("leaning on " + i, some[i], x -> x.leaning(work));
        }
        LifeList x = new LifeList();
        Checks.painting(x);
        Checks.due("none on the first", x.leaning(0), 0);
        for (int i = 1; i < 40; i++) {
            x.version(i - 1, 300, 200, 1, 1850, 1860);
            Checks.due("a chain of " + i, x.leaning(0), i);
        }
        Checks.due("on the second", x.leaning(1), 38);
        Checks.due("on the last but one", x.leaning(38), 1);
        Checks.due("on the last", x.leaning(39), 0);
        LifeList y = new LifeList();
        Checks.painting(y);
        for (int i = 1; i < 40; i++) {
            y.print(0, false, 300, 200, 1, 1850, 1860);
        }
        Checks.due("39 on one", y.leaning(0), 39);
        Checks.due("none on another", y.leaning(1), 0);
    }
}
