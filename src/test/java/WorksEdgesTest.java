/** Promises 1 to 9 at their edges: works, titles, cuts. */
public final class WorksEdgesTest {
    private static final int BAD = LifeList.BAD, NOT = LifeList.NOT, FULL = LifeList.FULL, NONE = LifeList.NONE;
    private static final int CAST = LifeList.CAST;
    private static final int LEAST = Integer.MIN_VALUE, MOST = Integer.MAX_VALUE;
    private static final int ALL_WORDS = (1 << 30) - 1;
    private static final Edges NOTHING = States.NOTHING, SOME = States.SOME, ALL = States.ALL;

    /** One of the calls by which a work comes, as far as they are alike. */
    private interface Coming {
        int on(LifeList x, int height, int width, int title, int low, int high);
    }

    public static void main(String[] args) {
        statesAreAsMeant();
        promise1();
        promise1NamesNothing();
        promise2();
        promise3();
        promise3Order();
        promise4();
        promise5();
        promise5Order();
        promise6();
        promise6Order();
        promise7();
        promise8();
        promise9();
        Checks.end();
    }

    /** If these were not so, other tests would test less than they seem to. */
    private static void statesAreAsMeant() {
        int[] all = {40, 60, 50, 20, 60, 9};
        int[] some = {4, 2, 5, 2, 4, 1};
        for (int what = 0; what < all.length; what++) {
            int asked = what;
            ALL.asked("count " + what, all[what], x -> x.count(asked));
            SOME.asked("count " + what, some[what], x -> x.count(asked));
            NOTHING.asked("count " + what, 0, x -> x.count(asked));
        }
        ALL.refused("the tape", FULL, x -> x.type(' ', 1));
    }

    private static void promise1() {
        NOTHING.asked("nothing is in", 0, x -> x.count(6));
        NOTHING.asked("nothing is struck", 0, x -> x.count(7));
        for (int kind = 0; kind < 4; kind++) {
            int[] due = {3, 2, 3};
            for (int what = 0; what < 3; what++) {
                int ofKind = kind;
                int asked = what;
                NOTHING.asked("first rules", due[what], x -> x.rule(ofKind, asked));
            }
        }
        for (int i = 0; i < 8; i++) {
            int member = i;
            NOTHING.taken("kin of none", 0, x -> x.kin(member, 1));
        }
        for (int i = 0; i < 16; i++) {
            int event = i;
            NOTHING.asked("sum of no event", 0, x -> x.sum(event));
        }
        for (int i = 0; i < 4; i++) {
            int sheet = i;
            NOTHING.refused("nothing on a sheet", LifeList.NULL, x -> x.drop(sheet));
        }
        NOTHING.taken("the tape is empty", 1, x -> x.type('p', 1));
        NOTHING.taken("an edition of nothing", 0, LifeList::edition);
        NOTHING.asked("no quarrel", 0, LifeList::quarrel);
        NOTHING.asked("none put aside", 0, LifeList::asides);
        NOTHING.refused("no first one aside", BAD, x -> x.aside(0));
        NOTHING.refused("no holding", NOT, LifeList::unhold);
        NOTHING.asked("none unsure", 0, x -> x.unsure(9999, 0));
        for (int what = 0; what < 3; what++) {
            int asked = what;
            NOTHING.asked("no mentions", 0, x -> x.mentions(asked));
            NOTHING.asked("none counted", 0, x -> x.counted(0, 1, asked));
        }
        NOTHING.refused("none counted twice", NONE, x -> x.counted(0, 1, 3));
        NOTHING.asked("none counted at all", 0, x -> x.counted(0, 1, 4));
        LifeList other = States.some();
        LifeList fresh = new LifeList();
        Checks.due("another object's works", other.count(0), 4);
        Checks.due("are not those of a new one", fresh.count(0), 0);
        Checks.due("nor is its tape", fresh.type('p', 1), 1);
    }

    private static void promise1NamesNothing() {
        Edges.Call[] calls = {
            x -> x.version(0, 300, 200, 1, 1850, 1860), x -> x.print(0, true, 300, 200, 1, 1850, 1860),
            x -> x.retitle(0, 1900, 1), x -> x.cut(0, 1900, 100, 100), x -> x.told(0, 0), x -> x.then(0, 1900, 0),
            x -> x.turned(0), x -> x.holding(0, 0, 1850, 1850, 1850, 1850), x -> x.owner(0, 1850),
            x -> x.may(0, 1850), x -> x.twice(0), x -> x.gap(0, 1850), x -> x.score(0, 0), x -> x.rivals(0),
            x -> x.joined(0), x -> x.sure(0), x -> x.clue(0, 1, 0), x -> x.use(0, true), x -> x.made(0, 0),
            x -> x.vote(0, 0, 7, 0, false), x -> x.votes(0, 0), x -> x.state(0, 0, 0), x -> x.unsure(0, 1),
            x -> x.leaning(0), x -> x.number(0)};
        for (int i = 0; i < calls.length; i++) {
            NOTHING.refused("names nothing, call " + i, BAD, calls[i]);
        }
    }

    /** Sizes, title and span, each at its edges, while there is room for a work more. */
    private static void toldOfWorks(String what, Coming call) {
        SOME.range(what + ", height", 10, 5000, (x, n) -> call.on(x, n, 200, 1, 1850, 1860));
        SOME.range(what + ", width", 10, 5000, (x, n) -> call.on(x, 300, n, 1, 1850, 1860));
        SOME.bits(what + ", title", 30, (x, n) -> call.on(x, 300, 200, n, 1850, 1860));
        SOME.refused(what + ", a title of no words", BAD, x -> call.on(x, 300, 200, 0, 1850, 1860));
        SOME.range(what + ", low", 1800, 1860, (x, n) -> call.on(x, 300, 200, 1, n, 1860));
        SOME.range(what + ", high", 1850, 1999, (x, n) -> call.on(x, 300, 200, 1, 1850, n));
        SOME.taken(what + ", the first year alone", 4, x -> call.on(x, 10, 10, 1, 1800, 1800));
        SOME.taken(what + ", the last year alone", 4, x -> call.on(x, 5000, 5000, ALL_WORDS, 1999, 1999));
        SOME.taken(what + ", all years", 4, x -> call.on(x, 10, 5000, 1, 1800, 1999));
        SOME.refused(what + ", high a year below low", BAD, x -> call.on(x, 300, 200, 1, 1860, 1859));
        SOME.refused(what + ", years ahead of all", BAD, x -> call.on(x, 300, 200, 1, 1799, 1799));
        SOME.refused(what + ", years behind all", BAD, x -> call.on(x, 300, 200, 1, 2000, 2000));
    }

    private static void fullOfWorks(String what, Coming call) {
        ALL.refused(what + ", a 41st", FULL, x -> call.on(x, 300, 200, 1, 1850, 1860));
        badAhead(what + ", BAD ahead of FULL", ALL, call);
    }

    /** Each number wrong, where the call would be refused anyway. */
    private static void badAhead(String what, Edges state, Coming call) {
        state.refused(what + ", height", BAD, x -> call.on(x, 9, 200, 1, 1850, 1860));
        state.refused(what + ", width", BAD, x -> call.on(x, 300, 5001, 1, 1850, 1860));
        state.refused(what + ", title", BAD, x -> call.on(x, 300, 200, 0, 1850, 1860));
        state.refused(what + ", low", BAD, x -> call.on(x, 300, 200, 1, 1799, 1860));
        state.refused(what + ", high", BAD, x -> call.on(x, 300, 200, 1, 1850, 2000));
        state.refused(what + ", span", BAD, x -> call.on(x, 300, 200, 1, 1861, 1860));
    }

    private static void promise2() {
        toldOfWorks("a painting", (x, h, w, t, low, high) -> x.work(0, h, w, t, low, high));
        toldOfWorks("a drawing", (x, h, w, t, low, high) -> x.work(2, h, w, t, low, high));
        fullOfWorks("a painting", (x, h, w, t, low, high) -> x.work(0, h, w, t, low, high));
        fullOfWorks("a drawing", (x, h, w, t, low, high) -> x.work(2, h, w, t, low, high));
        SOME.bad("kind", (x, n) -> x.work(n, 300, 200, 1, 1850, 1860), -1, 1, 3, 4, LEAST, MOST);
        ALL.bad("kind, BAD ahead of FULL", (x, n) -> x.work(n, 300, 200, 1, 1850, 1860), -1, 1, 3, 4);
        SOME.shown("a painting's kind", 0, x -> x.work(0, 300, 200, 1, 1850, 1860), x -> x.told(4, 0));
        SOME.shown("a drawing's kind", 2, x -> x.work(2, 300, 200, 1, 1850, 1860), x -> x.told(4, 0));
        LifeList x = new LifeList();
        for (int i = 0; i < 40; i++) {
            int kind = i % 4;
            int due = i;
            int got = kind == 1 ? x.version(0, 300, 200, 1, 1850, 1860)
                    : kind == 3 ? x.print(i - 1, false, 300, 200, 1, 1850, 1860) : x.work(kind, 300, 200, 1, 1850, 1860);
            Checks.due("works of all kinds are numbered as they come", got, due);
        }
        Checks.due("the 41st", x.work(0, 300, 200, 1, 1850, 1860), FULL);
        Checks.due("40 are there", x.count(0), 40);
        Checks.due("the last is there", x.told(39, 0), 3);
        Checks.due("none behind it", x.told(40, 0), BAD);
    }

    private static void promise3() {
        toldOfWorks("a version", (x, h, w, t, low, high) -> x.version(0, h, w, t, low, high));
        fullOfWorks("a version", (x, h, w, t, low, high) -> x.version(1, h, w, t, low, high));
        SOME.range("version of", 0, 3, (x, n) -> x.version(n, 300, 200, 1, 1850, 1860));
        SOME.taken("of a painting", 4, x -> x.version(0, 300, 200, 1, 1850, 1860));
        SOME.taken("of a version", 4, x -> x.version(1, 300, 200, 1, 1850, 1860));
        SOME.refused("of a drawing", CAST, x -> x.version(2, 300, 200, 1, 1850, 1860));
        SOME.refused("of a print", CAST, x -> x.version(3, 300, 200, 1, 1850, 1860));
        SOME.refused("of itself", BAD, x -> x.version(4, 300, 200, 1, 1850, 1860));
        SOME.shown("its kind", 1, x -> x.version(1, 300, 200, 1, 1850, 1860), x -> x.told(4, 0));
        SOME.shown("what it is of", 1, x -> x.version(1, 300, 200, 1, 1850, 1860), x -> x.told(4, 5));
    }

    private static void promise3Order() {
        badAhead("version, BAD ahead of CAST", SOME, (x, h, w, t, low, high) -> x.version(2, h, w, t, low, high));
        badAhead("version, BAD ahead of CAST, FULL", ALL, (x, h, w, t, low, high) -> x.version(3, h, w, t, low, high));
        ALL.refused("CAST ahead of FULL", CAST, x -> x.version(2, 300, 200, 1, 1850, 1860));
        ALL.refused("CAST ahead of FULL", CAST, x -> x.version(3, 300, 200, 1, 1850, 1860));
        ALL.refused("BAD ahead of FULL", BAD, x -> x.version(40, 300, 200, 1, 1850, 1860));
        ALL.refused("BAD ahead of FULL", BAD, x -> x.version(-1, 300, 200, 1, 1850, 1860));
    }

    private static void promise4() {
        toldOfWorks("a print", (x, h, w, t, low, high) -> x.print(0, true, h, w, t, low, high));
        fullOfWorks("a print", (x, h, w, t, low, high) -> x.print(3, false, h, w, t, low, high));
        SOME.range("print of", 0, 3, (x, n) -> x.print(n, false, 300, 200, 1, 1850, 1860));
        for (int i = 0; i < 4; i++) {
            int of = i;
            SOME.taken("print of kind " + i, 4, x -> x.print(of, true, 300, 200, 1, 1850, 1860));
            SOME.shown("its kind", 3, x -> x.print(of, true, 300, 200, 1, 1850, 1860), x -> x.told(4, 0));
            SOME.shown("what it is of", i, x -> x.print(of, true, 300, 200, 1, 1850, 1860), x -> x.told(4, 5));
            SOME.shown("it turns", 1, x -> x.print(of, true, 300, 200, 1, 1850, 1860), x -> x.turned(4));
            SOME.shown("it does not", 0, x -> x.print(of, false, 300, 200, 1, 1850, 1860), x -> x.turned(4));
        }
        ALL.refused("BAD ahead of FULL", BAD, x -> x.print(40, true, 300, 200, 1, 1850, 1860));
        ALL.refused("BAD ahead of FULL", BAD, x -> x.print(-1, true, 300, 200, 1, 1850, 1860));
    }

    private static void promise5() {
        SOME.range("retitle, work", 0, 3, (x, n) -> x.retitle(n, 1950, 1));
        SOME.range("retitle, year", 1800, 1999, (x, n) -> x.retitle(1, n, 1));
        SOME.bits("retitle, title", 30, (x, n) -> x.retitle(1, 1950, n));
        SOME.refused("retitle, no words", BAD, x -> x.retitle(1, 1950, 0));
        for (int i = 1; i < 4; i++) {
            int work = i;
            SOME.taken("a first change in the first year", 2, x -> x.retitle(work, 1800, 1));
            SOME.taken("a first change in the last year", 2, x -> x.retitle(work, 1999, 1));
        }
        SOME.taken("a second change a year behind", 3, x -> x.retitle(0, 1901, 1));
        SOME.refused("in the same year", NOT, x -> x.retitle(0, 1900, 1));
        SOME.refused("a year ahead", NOT, x -> x.retitle(0, 1899, 1));
        SOME.refused("in the first year", NOT, x -> x.retitle(0, 1800, 1));
        LifeList x = States.some();
        Checks.due("three titles", x.retitle(0, 1998, 1), 3);
        Checks.due("not rising", x.retitle(0, 1998, 2), NOT);
        Checks.due("four titles, the last year", x.retitle(0, 1999, 4), 4);
        Checks.due("another work's are its own", x.retitle(1, 1850, 1), 2);
        Checks.due("what was refused is not there", x.then(0, 1998, 0), 1);
        Checks.due("the last one", x.then(0, 1999, 0), 4);
    }

    private static void promise5Order() {
        SOME.refused("BAD ahead of NOT, title", BAD, x -> x.retitle(0, 1900, 0));
        SOME.refused("BAD ahead of NOT, year", BAD, x -> x.retitle(0, 1799, 1));
        ALL.refused("a fourth more", FULL, x -> x.retitle(0, 1903, 1));
        ALL.refused("a fourth more, the last year", FULL, x -> x.retitle(0, 1999, 1));
        ALL.refused("NOT ahead of FULL, the same year", NOT, x -> x.retitle(0, 1902, 1));
        ALL.refused("NOT ahead of FULL, a year ahead", NOT, x -> x.retitle(0, 1901, 1));
        ALL.refused("BAD ahead of FULL, title", BAD, x -> x.retitle(0, 1999, 0));
        ALL.refused("BAD ahead of FULL, year", BAD, x -> x.retitle(0, 2000, 1));
        ALL.taken("works full, titles not", 2, x -> x.retitle(39, 1800, 1));
    }

    private static void promise6() {
        SOME.range("cut, work", 0, 3, (x, n) -> x.cut(n, 1900, 50, 50));
        SOME.range("cut, year", 1800, 1999, (x, n) -> x.cut(3, n, 50, 50));
        SOME.range("cut, height", 10, 5000, (x, n) -> x.cut(3, 1900, n, 50));
        SOME.range("cut, width", 10, 5000, (x, n) -> x.cut(3, 1900, 50, n));
        SOME.taken("the height by one", 1, x -> x.cut(3, 1900, 99, 80));
        SOME.taken("the width by one", 1, x -> x.cut(3, 1900, 100, 79));
        SOME.taken("both to the least", 1, x -> x.cut(3, 1900, 10, 10));
        SOME.refused("neither is less", NOT, x -> x.cut(3, 1900, 100, 80));
        SOME.refused("the height is more", NOT, x -> x.cut(3, 1900, 101, 79));
        SOME.refused("the width is more", NOT, x -> x.cut(3, 1900, 99, 81));
        SOME.refused("the height is more, the width the same", NOT, x -> x.cut(3, 1900, 101, 80));
        SOME.refused("both are more", NOT, x -> x.cut(3, 1900, 101, 81));
        SOME.refused("both are the most", NOT, x -> x.cut(3, 1900, 5000, 5000));
        SOME.refused("it was cut, later", NOT, x -> x.cut(2, 1950, 50, 50));
        SOME.refused("it was cut, in that year", NOT, x -> x.cut(2, 1900, 50, 50));
        SOME.refused("it was cut, ahead", NOT, x -> x.cut(2, 1850, 115, 80));
        SOME.refused("a painting", CAST, x -> x.cut(0, 1900, 50, 50));
        SOME.refused("a version", CAST, x -> x.cut(1, 1900, 50, 50));
        LifeList x = States.some();
        Checks.due("one refused", x.cut(3, 1900, 100, 80), NOT);
        Checks.due("is no cut", x.cut(3, 1900, 100, 79), 1);
        Checks.due("the second is", x.cut(3, 1900, 100, 78), NOT);
        x.work(2, 10, 10, 1, 1850, 1860);
        Checks.due("the least can't be less", x.cut(4, 1900, 9, 10), BAD);
        Checks.due("nor stay as it is", x.cut(4, 1900, 10, 10), NOT);
    }

    private static void promise6Order() {
        SOME.refused("BAD ahead of CAST, year", BAD, x -> x.cut(0, 1799, 50, 50));
        SOME.refused("BAD ahead of CAST, height", BAD, x -> x.cut(0, 1900, 9, 50));
        SOME.refused("BAD ahead of CAST, width", BAD, x -> x.cut(1, 1900, 50, 5001));
        SOME.refused("BAD ahead of NOT, year", BAD, x -> x.cut(2, 2000, 50, 50));
        SOME.refused("BAD ahead of NOT, height", BAD, x -> x.cut(2, 1900, 9, 80));
        SOME.refused("BAD ahead of NOT, width", BAD, x -> x.cut(3, 1900, 101, 9));
        SOME.refused("CAST ahead of NOT, neither is less", CAST, x -> x.cut(0, 1900, 300, 200));
        SOME.refused("CAST ahead of NOT, both are more", CAST, x -> x.cut(1, 1900, 400, 400));
        ALL.refused("all full, it was cut", NOT, x -> x.cut(2, 1900, 50, 50));
        ALL.taken("all full, it was not", 1, x -> x.cut(39, 1900, 50, 50));
    }

    private static void promise7() {
        int[][] due = {{0, 300, 200, 1850, 1860, NONE}, {1, 310, 200, 1855, 1865, 0}, {2, 120, 80, 1850, 1900, NONE},
            {3, 100, 80, 1880, 1890, 2}};
        for (int i = 0; i < due.length; i++) {
            int work = i;
            for (int j = 0; j < due[i].length; j++) {
                int what = j;
                SOME.asked("told " + i + " " + j, due[i][j], x -> x.told(work, what));
            }
            SOME.range("told, what", 0, 5, (x, n) -> x.told(work, n));
        }
        SOME.range("told, work", 0, 3, (x, n) -> x.told(n, 0));
        ALL.range("told, work", 0, 39, (x, n) -> x.told(n, 4));
        SOME.shown("low as told, not by clues", 1855, x -> x.clue(0, 1, 12), x -> x.told(1, 3));
        SOME.shown("high as told, not by clues", 1860, x -> x.clue(0, 1, 12), x -> x.told(0, 4));
        SOME.shown("sizes as told, not as cut", 100, x -> x.cut(3, 1800, 50, 50), x -> x.told(3, 1));
        SOME.shown("sizes as told, not as cut", 80, x -> x.cut(3, 1800, 50, 50), x -> x.told(3, 2));
    }

    private static void promise8() {
        SOME.range("then, work", 0, 3, (x, n) -> x.then(n, 1900, 0));
        ALL.range("then, work", 0, 39, (x, n) -> x.then(n, 1900, 0));
        SOME.range("then, year", 1800, 1999, (x, n) -> x.then(0, n, 0));
        SOME.range("then, what", 0, 2, (x, n) -> x.then(0, 1900, n));
        int[][] due = {{0, 1800, 3, 300, 200}, {0, 1899, 3, 300, 200}, {0, 1900, 5, 300, 200}, {0, 1999, 5, 300, 200},
            {1, 1800, 3, 310, 200}, {2, 1800, 12, 120, 80}, {2, 1899, 12, 120, 80}, {2, 1900, 12, 110, 80},
            {2, 1999, 12, 110, 80}, {3, 1999, 12, 100, 80}};
        for (int[] row : due) {
            for (int i = 0; i < 3; i++) {
                int what = i;
                SOME.asked("then " + row[0] + " " + row[1] + " " + i, row[2 + i], x -> x.then(row[0], row[1], what));
            }
        }
        int[][] titles = {{1899, 3}, {1900, 5}, {1901, 6}, {1902, 7}, {1999, 7}};
        for (int[] row : titles) {
            ALL.asked("title of " + row[0], row[1], x -> x.then(0, row[0], 0));
        }
        SOME.shown("a title of the first year", 9, x -> x.retitle(1, 1800, 9), x -> x.then(1, 1800, 0));
        SOME.shown("a title of the last year", 9, x -> x.retitle(1, 1999, 9), x -> x.then(1, 1999, 0));
        SOME.shown("a year ahead of it", 3, x -> x.retitle(1, 1999, 9), x -> x.then(1, 1998, 0));
        SOME.shown("cut in the first year", 10, x -> x.cut(3, 1800, 10, 11), x -> x.then(3, 1800, 1));
        SOME.shown("cut in the first year", 11, x -> x.cut(3, 1800, 10, 11), x -> x.then(3, 1800, 2));
        SOME.shown("cut in the last year", 10, x -> x.cut(3, 1999, 10, 11), x -> x.then(3, 1999, 1));
        SOME.shown("a year ahead of it", 80, x -> x.cut(3, 1999, 10, 11), x -> x.then(3, 1998, 2));
        SOME.shown("the height, long behind the cut", 10, x -> x.cut(3, 1800, 10, 11), x -> x.then(3, 1999, 1));
        SOME.shown("the width, long behind the cut", 11, x -> x.cut(3, 1800, 10, 11), x -> x.then(3, 1999, 2));
        SOME.shown("the width, long ahead of the cut", 80, x -> x.cut(3, 1999, 10, 11), x -> x.then(3, 1800, 2));
    }

    private static void promise9() {
        SOME.range("turned", 0, 3, (x, n) -> x.turned(n));
        ALL.range("turned", 0, 39, (x, n) -> x.turned(n));
        SOME.refused("a painting", CAST, x -> x.turned(0));
        SOME.refused("a version", CAST, x -> x.turned(1));
        SOME.refused("a drawing", CAST, x -> x.turned(2));
        SOME.asked("a print that turns", 1, x -> x.turned(3));
        SOME.shown("a print that does not", 0, x -> x.print(3, false, 300, 200, 1, 1850, 1860), x -> x.turned(4));
        SOME.shown("the one behind it does not count", 1, x -> x.print(3, false, 300, 200, 1, 1850, 1860),
                x -> x.turned(3));
    }
}
