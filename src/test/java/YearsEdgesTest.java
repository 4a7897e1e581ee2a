/** Promises 24 to 29 at their edges: clues, the years that they leave, and which quarrel. */
public final class YearsEdgesTest {
    private static final int BAD = LifeList.BAD, NOT = LifeList.NOT, FULL = LifeList.FULL, NONE = LifeList.NONE;
    private static final Edges SOME = States.SOME, ALL = States.ALL, NOTHING = States.NOTHING;

    public static void main(String[] args) {
        promise24();
        promise24Full();
        promise25();
        promise26();
        promise26ByClues();
        promise26Struck();
        promise27();
        promise27Rings();
        promise28();
        promise28ThatCount();
        promise29();
        promise29FirstByNumbers();
        Checks.end();
    }

    private static LifeList spans(int... years) {
        LifeList x = new LifeList();
        for (int i = 0; i + 1 < years.length; i += 2) {
            x.work(0, 300, 300, 1, years[i], years[i + 1]);
        }
        return x;
    }

    private static void madeDue(String what, LifeList x, int... due) {
        for (int i = 0; i < due.length; i++) {
            Checks.due(what + ", work " + i / 2 + ", " + i % 2, x.made(i / 2, i % 2), due[i]);
        }
    }

    private static void promise24() {
        SOME.range("w", 0, 3, (x, n) -> x.clue(n, n == 1 ? 0 : 1, 0));
        SOME.range("v", 0, 3, (x, n) -> x.clue(n == 1 ? 0 : 1, n, 0));
        SOME.range("k", -30, 30, (x, n) -> x.clue(0, 1, n));
        for (int i = 0; i < 4; i++) {
            int work = i;
            SOME.refused("one work " + i, BAD, x -> x.clue(work, work, 0));
        }
        SOME.taken("its number", 2, x -> x.clue(3, 0, -30));
        SOME.taken("one that is told already", 2, x -> x.clue(0, 1, 3));
        NOTHING.refused("no works", BAD, x -> x.clue(0, 1, 0));
        LifeList x = spans(1850, 1860);
        Checks.due("one work is there", x.clue(0, 1, 0), BAD);
        Checks.due("one work is there", x.clue(1, 0, 0), BAD);
    }

    private static void promise24Full() {
        ALL.refused("a 21st", FULL, x -> x.clue(0, 1, 0));
        ALL.bad("BAD ahead of FULL, w", (x, n) -> x.clue(n, 1, 0), -1, 40);
        ALL.bad("BAD ahead of FULL, v", (x, n) -> x.clue(1, n, 0), -1, 40);
        ALL.bad("BAD ahead of FULL, k", (x, n) -> x.clue(0, 1, n), -31, 31);
        ALL.bad("BAD ahead of FULL, one work", (x, n) -> x.clue(n, n, 0), 0, 39);
        LifeList x = spans(1850, 1860, 1850, 1860);
        for (int i = 0; i < 20; i++) {
            Checks.due("numbered as they come", x.clue(0, 1, 0), i);
        }
        Checks.due("a 21st", x.clue(0, 1, 0), FULL);
        x.use(0, false);
        Checks.due("one that is not in use keeps its place", x.clue(0, 1, 0), FULL);
        Checks.due("20", x.count(3), 20);
    }

    private static void promise25() {
        SOME.range("use", 0, 1, (x, n) -> x.use(n, true));
        ALL.range("use", 0, 19, (x, n) -> x.use(n, true));
        NOTHING.refused("none is there", BAD, x -> x.use(0, false));
        SOME.taken("it was", 1, x -> x.use(0, true));
        SOME.taken("it was", 1, x -> x.use(0, false));
        SOME.shown("it was not", 0, x -> x.use(0, false), x -> x.use(0, true));
        SOME.shown("it was not", 0, x -> x.use(1, false), x -> x.use(1, false));
        SOME.shown("another one was", 1, x -> x.use(0, false), x -> x.use(1, false));
        SOME.shown("in use again", 1, x -> x.use(0, false) + x.use(0, true), x -> x.use(0, true));
        SOME.shown("how many there are stays", 2, x -> x.use(0, false), x -> x.count(3));
    }

    private static void promise26() {
        SOME.range("work", 0, 3, (x, n) -> x.made(n, 0));
        SOME.range("which", 0, 1, (x, n) -> x.made(0, n));
        ALL.range("work", 0, 39, (x, n) -> x.made(n, 1));
        NOTHING.refused("no works", BAD, x -> x.made(0, 0));
        LifeList x = spans(1800, 1999, 1800, 1800, 1999, 1999);
        madeDue("without clues", x, 1800, 1999, 1800, 1800, 1999, 1999);
        x.clue(0, 1, 30);
        Checks.due("they quarrel", x.made(0, 0), NOT);
        Checks.due("they quarrel", x.made(1, 1), NOT);
        Checks.due("of a work without clues, too", x.made(2, 0), NOT);
        Checks.due("BAD ahead of NOT, work", x.made(3, 0), BAD);
        Checks.due("BAD ahead of NOT, work", x.made(-1, 0), BAD);
        Checks.due("BAD ahead of NOT, which", x.made(0, 2), BAD);
        Checks.due("BAD ahead of NOT, which", x.made(0, -1), BAD);
        x.use(0, false);
        madeDue("not in use", x, 1800, 1999, 1800, 1800, 1999, 1999);
    }

    private static void promise26ByClues() {
        LifeList x = spans(1850, 1900, 1850, 1900);
        x.clue(0, 1, 30);
        madeDue("30 behind", x, 1850, 1870, 1880, 1900);
        LifeList y = spans(1850, 1900, 1850, 1900);
        y.clue(0, 1, 0);
        madeDue("in any years", y, 1850, 1900, 1850, 1900);
        LifeList z = spans(1880, 1900, 1800, 1860);
        z.clue(0, 1, -30);
        madeDue("30 ahead at most", z, 1880, 1890, 1850, 1860);
        LifeList v = spans(1860, 1870, 1850, 1880);
        v.clue(0, 1, 0);
        madeDue("no less than", v, 1860, 1870, 1860, 1880);
        v.clue(1, 0, 0);
        madeDue("the same", v, 1860, 1870, 1860, 1870);
        LifeList w = spans(1800, 1999, 1800, 1999, 1800, 1999, 1800, 1999, 1800, 1999, 1800, 1999, 1800, 1999);
        for (int i = 5; i >= 0; i--) {
            w.clue(i, i + 1, 30);
        }
        madeDue("30 each", w, 1800, 1819, 1830, 1849, 1860, 1879, 1890, 1909, 1920, 1939, 1950, 1969, 1980, 1999);
        LifeList u = spans(1850, 1900, 1850, 1900);
        u.clue(0, 1, 10);
        u.clue(0, 1, 20);
        u.clue(0, 1, 15);
        madeDue("the hardest of several", u, 1850, 1880, 1870, 1900);
        u.use(1, false);
        madeDue("without it", u, 1850, 1885, 1865, 1900);
    }

    private static void promise26Struck() {
        LifeList x = spans(1850, 1900, 1850, 1900, 1850, 1900);
        x.clue(0, 1, 10);
        x.clue(1, 2, 10);
        madeDue("all count", x, 1850, 1880, 1860, 1890, 1870, 1900);
        x.vote(0, 9999, 7, 0, true);
        madeDue("not those of the first", x, 1850, 1900, 1850, 1890, 1860, 1900);
        x.vote(2, 0, 7, 0, true);
        madeDue("nor those of the third", x, 1850, 1900, 1850, 1900, 1850, 1900);
        x.vote(0, 9999, 7, 0, false);
        madeDue("the first is in again", x, 1850, 1890, 1860, 1900, 1850, 1900);
        x.vote(2, 0, 1, 6, false);
        madeDue("a vote that did not pass", x, 1850, 1890, 1860, 1900, 1850, 1900);
    }

    private static void promise27() {
        SOME.asked("none", 0, LifeList::quarrel);
        ALL.asked("none", 0, LifeList::quarrel);
        int[][] due = {{1850, 1860, 1850, 1860, 10, 0}, {1850, 1860, 1850, 1860, 11, 1},
            {1800, 1800, 1830, 1830, 30, 0}, {1800, 1800, 1829, 1829, 30, 1}, {1830, 1830, 1800, 1800, -30, 0},
            {1831, 1831, 1800, 1800, -30, 1}, {1850, 1850, 1850, 1850, 0, 0}, {1851, 1851, 1850, 1850, 0, 1},
            {1970, 1999, 1999, 1999, 29, 0}, {1970, 1999, 1999, 1999, 30, 1}, {1800, 1999, 1800, 1999, -30, 0}};
        for (int[] row : due) {
            LifeList x = spans(row[0], row[1], row[2], row[3]);
            x.clue(0, 1, row[4]);
            Checks.due("span " + row[0] + " to " + row[3] + " by " + row[4], x.quarrel(), row[5]);
        }
        LifeList y = spans(1850, 1860, 1850, 1860);
        y.clue(0, 1, 11);
        y.use(0, false);
        Checks.due("not in use", y.quarrel(), 0);
        y.use(0, true);
        Checks.due("in use", y.quarrel(), 1);
        y.vote(1, 0, 7, 0, true);
        Checks.due("of a struck work", y.quarrel(), 0);
        y.vote(1, 0, 7, 0, false);
        Checks.due("of one that is in", y.quarrel(), 1);
    }

    private static void promise27Rings() {
        LifeList x = spans(1800, 1999, 1800, 1999);
        x.clue(0, 1, 30);
        x.clue(1, 0, -30);
        Checks.due("exactly 30 apart", x.quarrel(), 0);
        madeDue("exactly 30 apart", x, 1800, 1969, 1830, 1999);
        x.clue(1, 0, -29);
        Checks.due("a year too much", x.quarrel(), 1);
        int[] years = new int[40];
        for (int i = 0; i < 40; i++) {
            years[i] = i % 2 == 0 ? 1800 : 1999;
        }
        LifeList y = spans(years);
        for (int i = 0; i < 19; i++) {
            y.clue(i + 1, i, 1);
        }
        y.clue(0, 19, -19);
        Checks.due("a ring of all twenty clues", y.quarrel(), 0);
        Checks.due("its first", y.made(19, 0), 1800);
        Checks.due("its last", y.made(0, 0), 1819);
        Checks.due("its last", y.made(0, 1), 1999);
        Checks.due("its first", y.made(19, 1), 1980);
        LifeList z = spans(years);
        for (int i = 0; i < 19; i++) {
            z.clue(i + 1, i, 1);
        }
        z.clue(0, 19, -18);
        Checks.due("a ring a year too much", z.quarrel(), 1);
        Checks.due("any one would do: the first", z.aside(0), 0);
        Checks.due("any one would do", z.asides(), 1);
    }

    /** Two works of 1850 to 1860; clues that quarrel by themselves are 11, those that do not 10. */
    private static LifeList clues(int... distances) {
        LifeList x = spans(1850, 1860, 1850, 1860);
        for (int k : distances) {
            x.clue(0, 1, k);
        }
        return x;
    }

    private static void promise28() {
        SOME.asked("none", 0, LifeList::asides);
        NOTHING.asked("none", 0, LifeList::asides);
        Checks.due("0", clues(10).asides(), 0);
        Checks.due("1", clues(11).asides(), 1);
        Checks.due("2", clues(11, 11).asides(), 2);
        Checks.due("3", clues(11, 11, 11).asides(), 3);
        Checks.due("4", clues(11, 11, 11, 11).asides(), NONE);
        Checks.due("1 of 2", clues(10, 11).asides(), 1);
        Checks.due("3 of 4", clues(11, 10, 11, 11).asides(), 3);
        Checks.due("4 of 5", clues(11, 11, 10, 11, 11).asides(), NONE);
        int[] all = new int[20];
        java.util.Arrays.fill(all, 11);
        Checks.due("all 20", clues(all).asides(), NONE);
        java.util.Arrays.fill(all, 0, 17, 10);
        Checks.due("the last 3 of 20", clues(all).asides(), 3);
    }

    private static void promise28ThatCount() {
        LifeList x = clues(11, 11, 11, 11);
        x.use(1, false);
        Checks.due("one is not in use", x.asides(), 3);
        Checks.due("the first", x.aside(0), 0);
        Checks.due("not the second", x.aside(1), 2);
        Checks.due("the last", x.aside(2), 3);
        x.vote(0, 0, 7, 0, true);
        Checks.due("of a struck work", x.asides(), 0);
        Checks.due("of a struck work", x.aside(0), BAD);
        x.vote(0, 0, 7, 0, false);
        Checks.due("of one that is in", x.asides(), 3);
        Checks.due("asking puts nothing aside", x.use(0, true), 1);
        Checks.due("asking puts nothing aside", x.quarrel(), 1);
    }

    private static void promise29() {
        SOME.refused("none is", BAD, x -> x.aside(0));
        for (int count = 0; count <= 4; count++) {
            int[] distances = new int[count + 1];
            java.util.Arrays.fill(distances, 11);
            distances[0] = 10;
            Edges state = new Edges("asides " + count, () -> clues(distances));
            for (int i = 0; i < 3; i++) {
                int asked = i;
                if (count == 4) {
                    state.refused("aside " + i, NONE, x -> x.aside(asked));
                } else if (i >= count) {
                    state.refused("aside " + i, BAD, x -> x.aside(asked));
                } else {
                    state.asked("aside " + i, i + 1, x -> x.aside(asked));
                }
            }
            state.bad("aside", (x, n) -> x.aside(n), -1, 3, Integer.MIN_VALUE, Integer.MAX_VALUE);
        }
    }

    private static void promise29FirstByNumbers() {
        LifeList x = spans(1800, 1999, 1800, 1999, 1800, 1999);
        x.clue(0, 1, 5);
        x.clue(1, 2, 5);
        x.clue(2, 0, -9);
        asidesDue("any of a ring", x, 0);
        x.clue(2, 1, -4);
        asidesDue("one in both rings", x, 1);
        x.clue(1, 0, -4);
        asidesDue("two: the first by numbers", x, 0, 1);
        x.use(0, false);
        asidesDue("one again", x, 1);
        x.use(0, true);
        x.clue(0, 1, 5);
        asidesDue("one of them twice", x, 1, 4);
        x.clue(1, 2, 5);
        asidesDue("both of them twice: one of them, and the other's ring", x, 0, 3, 5);
        // Fewer far behind are ahead of more at the beginning.
        LifeList y = spans(1850, 1860, 1850, 1860, 1850, 1860);
        for (int i = 0; i < 18; i++) {
            y.clue(0, 1, 10);
        }
        y.clue(0, 2, 5);
        y.clue(2, 1, 6);
        asidesDue("one of the last two", y, 18);
        LifeList z = spans(1850, 1860, 1850, 1860);
        z.clue(1, 0, 1);
        z.clue(0, 1, 0);
        z.clue(0, 1, 1);
        asidesDue("the one, not the two", z, 0);
    }

    private static void asidesDue(String what, LifeList x, int... due) {
        Checks.due(what + ", how many", x.asides(), due.length);
        for (int i = 0; i < 3; i++) {
            Checks.due(what + ", " + i, x.aside(i), i < due.length ? due[i] : BAD);
        }
    }
}
