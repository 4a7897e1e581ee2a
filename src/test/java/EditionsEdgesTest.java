/** Promises 39 to 41 at their edges: editions, numbers that never move, counts. */
public final class EditionsEdgesTest {
    private static final int BAD = LifeList.BAD, FULL = LifeList.FULL, NONE = LifeList.NONE;
    private static final Edges SOME = States.SOME, ALL = States.ALL, NOTHING = States.NOTHING;

    public static void main(String[] args) {
        promise39();
        promise39ThoseIn();
        promise39Order();
        promise39OrderByClues();
        promise39Letters();
        promise39LettersOfZero();
        promise39NeverGivenAgain();
        promise39TwentySix();
        promise39NearestAhead();
        promise40();
        promise41();
        Checks.end();
    }

    private static int works(LifeList x, int... years) {
        for (int i = 0; i + 1 < years.length; i += 2) {
            x.work(0, 300, 300, 1, years[i], years[i + 1]);
        }
        return x.count(0);
    }

    private static void in(LifeList x, int... works) {
        for (int work : works) {
            Checks.due("in", x.vote(work, 0, 7, 0, false), 1);
        }
    }

    private static void numbersDue(String what, LifeList x, int... due) {
        for (int work = 0; work < due.length; work++) {
            Checks.due(what + ", work " + work, x.number(work), due[work]);
        }
    }

    private static void promise39() {
        NOTHING.taken("of nothing", 0, LifeList::edition);
        SOME.taken("none is new", 0, LifeList::edition);
        ALL.refused("a tenth", FULL, LifeList::edition);
        LifeList x = new LifeList();
        works(x, 1850, 1850, 1860, 1860);
        in(x, 0);
        for (int i = 1; i <= 9; i++) {
            Checks.due("edition " + i, x.edition(), i == 1 ? 1 : 0);
            Checks.due("how many", x.count(5), i);
        }
        in(x, 1);
        Checks.due("a tenth", x.edition(), FULL);
        Checks.due("still nine", x.count(5), 9);
        numbersDue("a tenth gives none", x, 100, NONE);
    }

    private static void promise39ThoseIn() {
        LifeList x = new LifeList();
        works(x, 1850, 1850, 1851, 1851, 1852, 1852, 1853, 1853);
        in(x, 1, 3);
        x.vote(0, 0, 7, 0, true);
        x.vote(2, 0, 3, 0, false);
        Checks.due("not those struck or doubtful", x.edition(), 2);
        numbersDue("those in", x, NONE, 100, NONE, 200);
        x.vote(1, 1, 7, 0, true);
        numbersDue("nothing takes a number away", x, NONE, 100, NONE, 200);
        Checks.due("nor does an edition", x.edition(), 0);
        numbersDue("nor does an edition", x, NONE, 100, NONE, 200);
        x.vote(1, 0, 7, 0, false);
        Checks.due("in by a day ahead is struck still", x.edition(), 0);
        x.vote(0, 9999, 7, 0, false);
        Checks.due("in on the last day", x.edition(), 1);
        numbersDue("a struck one is not ahead of it", x, 1, 100, NONE, 200);
    }

    private static void promise39Order() {
        LifeList x = new LifeList();
        // The sums are 3700, 3699, 3700, 3701, 3698.
        works(x, 1850, 1850, 1849, 1850, 1800, 1900, 1802, 1899, 1849, 1849);
        in(x, 4, 3, 2, 1, 0);
        Checks.due("five", x.edition(), 5);
        numbersDue("by sums, then by works", x, 300, 200, 400, 500, 100);
        LifeList y = new LifeList();
        works(y, 1999, 1999, 1800, 1800, 1800, 1999);
        in(y, 0, 1, 2);
        Checks.due("three", y.edition(), 3);
        numbersDue("the first and the last year", y, 300, 100, 200);
        LifeList z = new LifeList();
        int[] due = new int[40];
        for (int i = 0; i < 40; i++) {
            works(z, 1899 - i, 1899 - i);
            in(z, i);
            due[i] = 100 * (40 - i);
        }
        Checks.due("forty", z.edition(), 40);
        numbersDue("from the last to the first", z, due);
    }

    private static void promise39OrderByClues() {
        LifeList x = new LifeList();
        works(x, 1850, 1900, 1850, 1870, 1860, 1861);
        in(x, 0, 1, 2);
        x.clue(0, 1, 10);
        Checks.due("three", x.edition(), 3);
        // By the clue 1850 to 1860, 1860 to 1870; the third is 1860 to 1861.
        numbersDue("by clues", x, 100, 300, 200);
        LifeList y = new LifeList();
        works(y, 1850, 1900, 1850, 1870, 1860, 1861);
        in(y, 0, 1, 2);
        y.clue(0, 1, 10);
        y.clue(1, 0, -9);
        Checks.due("they quarrel", y.quarrel(), 1);
        Checks.due("three", y.edition(), 3);
        numbersDue("by spans, 3750, 3720, 3721", y, 300, 100, 200);
        LifeList z = new LifeList();
        works(z, 1850, 1900, 1850, 1870, 1860, 1861);
        in(z, 0, 2);
        z.vote(1, 0, 7, 0, true);
        z.clue(0, 1, 10);
        Checks.due("two", z.edition(), 2);
        numbersDue("clues of a struck one do not count", z, 200, NONE, 100);
    }

    private static void promise39Letters() {
        LifeList x = new LifeList();
        works(x, 1850, 1850, 1860, 1860);
        in(x, 0, 1);
        Checks.due("1 and 2", x.edition(), 2);
        works(x, 1850, 1850, 1855, 1855, 1860, 1860, 1870, 1870);
        in(x, 2, 3, 4, 5);
        Checks.due("four", x.edition(), 4);
        numbersDue("in this order", x, 100, 200, 101, 102, 201, 202);
        works(x, 1851, 1851, 1849, 1849);
        in(x, 6, 7);
        Checks.due("two", x.edition(), 2);
        numbersDue("the next letter, between 1a and 1b", x, 100, 200, 101, 102, 201, 202, 103, 1);
    }

    private static void promise39LettersOfZero() {
        LifeList x = new LifeList();
        Checks.due("edition 0 has none", x.edition(), 0);
        works(x, 1860, 1860, 1850, 1850);
        in(x, 0, 1);
        Checks.due("two", x.edition(), 2);
        numbersDue("none is ahead: 0 and letters", x, 2, 1);
        works(x, 1855, 1855);
        in(x, 2);
        Checks.due("one", x.edition(), 1);
        numbersDue("the nearest has 0", x, 2, 1, 3);
        Checks.due("three editions", x.count(5), 3);
    }

    private static void promise39NeverGivenAgain() {
        LifeList x = new LifeList();
        works(x, 1850, 1850, 1851, 1851, 1852, 1852);
        in(x, 0);
        Checks.due("1", x.edition(), 1);
        in(x, 1);
        Checks.due("1a", x.edition(), 1);
        x.vote(1, 1, 7, 0, true);
        in(x, 2);
        Checks.due("1b", x.edition(), 1);
        numbersDue("a is never given again", x, 100, 101, 102);
        x.vote(1, 2, 7, 0, false);
        Checks.due("none is new", x.edition(), 0);
        numbersDue("it has it still", x, 100, 101, 102);
    }

    private static void promise39TwentySix() {
        LifeList x = new LifeList();
        works(x, 1850, 1850);
        in(x, 0);
        Checks.due("1", x.edition(), 1);
        for (int i = 1; i <= 27; i++) {
            works(x, 1851, 1851);
            in(x, i);
        }
        Checks.due("26 of 27", x.edition(), 26);
        for (int i = 1; i <= 26; i++) {
            Checks.due("letter " + i, x.number(i), 100 + i);
        }
        Checks.due("beyond: none", x.number(27), NONE);
        works(x, 1852, 1852, 1840, 1840);
        in(x, 28, 29);
        Checks.due("one of three", x.edition(), 1);
        Checks.due("still none", x.number(27), NONE);
        Checks.due("nor the next", x.number(28), NONE);
        Checks.due("another number has letters left", x.number(29), 1);
        x.vote(0, 1, 7, 0, true);
        for (int i = 1; i <= 26; i++) {
            x.vote(i, 1, 7, 0, true);
        }
        Checks.due("with all of these struck, 0 is ahead", x.edition(), 2);
        Checks.due("0b", x.number(27), 2);
        Checks.due("0c", x.number(28), 3);
    }

    private static void promise39NearestAhead() {
        LifeList x = new LifeList();
        works(x, 1800, 1900, 1840, 1840, 1845, 1845);
        in(x, 0);
        Checks.due("1", x.edition(), 1);
        in(x, 1);
        Checks.due("0a", x.edition(), 1);
        numbersDue("ahead of it", x, 100, 1, NONE);
        x.clue(0, 1, 10);
        in(x, 2);
        Checks.due("one", x.edition(), 1);
        // The first is now 1800 to 1830, so that 0a stands behind 1, and is the nearest.
        numbersDue("the nearest has 0", x, 100, 1, 2);
        LifeList y = new LifeList();
        works(y, 1850, 1850, 1860, 1860, 1870, 1870);
        in(y, 0, 1);
        Checks.due("1 and 2", y.edition(), 2);
        y.vote(1, 1, 7, 0, true);
        in(y, 2);
        Checks.due("one", y.edition(), 1);
        numbersDue("one that is struck is not ahead", y, 100, 200, 101);
    }

    private static void promise40() {
        SOME.range("work", 0, 3, (x, n) -> x.number(n));
        ALL.range("work", 0, 39, (x, n) -> x.number(n));
        NOTHING.refused("no works", BAD, x -> x.number(0));
        SOME.asked("1", 100, x -> x.number(0));
        SOME.asked("2", 200, x -> x.number(3));
        SOME.refused("struck", NONE, x -> x.number(1));
        SOME.refused("doubtful", NONE, x -> x.number(2));
        LifeList x = new LifeList();
        for (int i = 0; i < 40; i++) {
            works(x, 1850, 1850);
            in(x, i);
            Checks.due("none before an edition", x.number(i), NONE);
        }
        Checks.due("forty", x.edition(), 40);
        Checks.due("the least", x.number(0), 100);
        Checks.due("the greatest", x.number(39), 4000);
        LifeList y = new LifeList();
        for (int i = 0; i < 40; i++) {
            works(y, 1850, 1850);
        }
        for (int i = 0; i < 14; i++) {
            in(y, i);
        }
        Checks.due("fourteen", y.edition(), 14);
        for (int i = 14; i < 40; i++) {
            in(y, i);
        }
        Checks.due("twenty-six", y.edition(), 26);
        Checks.due("14z", y.number(39), 1426);
        LifeList z = new LifeList();
        for (int i = 0; i < 40; i++) {
            works(z, 1850, 1850);
        }
        for (int i = 0; i < 39; i++) {
            in(z, i);
        }
        Checks.due("thirty-nine", z.edition(), 39);
        in(z, 39);
        Checks.due("one", z.edition(), 1);
        Checks.due("39a", z.number(39), 3901);
    }

    private static void promise41() {
        SOME.range("what", 0, 7, (x, n) -> x.count(n));
        NOTHING.range("what", 0, 7, (x, n) -> x.count(n));
        ALL.range("what", 0, 7, (x, n) -> x.count(n));
        int[] some = {4, 2, 5, 2, 4, 1, 2, 1};
        for (int i = 0; i < 8; i++) {
            int what = i;
            SOME.asked("count " + i, some[i], x -> x.count(what));
            NOTHING.asked("count " + i, 0, x -> x.count(what));
        }
        SOME.shown("a work more", 5, x -> x.work(0, 300, 200, 1, 1850, 1860), x -> x.count(0));
        SOME.shown("a version more", 5, x -> x.version(0, 300, 200, 1, 1850, 1860), x -> x.count(0));
        SOME.shown("a print more", 5, x -> x.print(0, true, 300, 200, 1, 1850, 1860), x -> x.count(0));
        SOME.shown("a holding more", 3, x -> x.holding(0, 0, 1850, 1850, 1850, 1850), x -> x.count(1));
        SOME.shown("a holding less", 1, LifeList::unhold, x -> x.count(1));
        SOME.shown("holdings from a sheet", 3, x -> x.holdings(0, 0, 0, 1), x -> x.count(1));
        SOME.shown("a mention more", 6, x -> x.mention(0, 0, 1900, 0, 0, 0, false, 1, -1), x -> x.count(2));
        SOME.shown("a clue more", 3, x -> x.clue(0, 1, 0), x -> x.count(3));
        SOME.shown("a vote more", 5, x -> x.vote(2, 0, 1, 0, false), x -> x.count(4));
        SOME.shown("an edition more", 2, LifeList::edition, x -> x.count(5));
        SOME.shown("one more in", 3, x -> x.vote(2, 0, 14, 0, false), x -> x.count(6));
        SOME.shown("one that did not pass", 2, x -> x.vote(2, 0, 2, 12, false), x -> x.count(6));
        SOME.shown("one more struck", 2, x -> x.vote(2, 9999, 14, 0, true), x -> x.count(7));
        SOME.shown("one less in", 1, x -> x.vote(0, 9999, 14, 0, true), x -> x.count(6));
        SOME.shown("one less struck", 0, x -> x.vote(1, 300, 14, 0, false), x -> x.count(7));
        SOME.shown("a day ahead changes none", 1, x -> x.vote(1, 299, 14, 0, false), x -> x.count(7));
    }
}
