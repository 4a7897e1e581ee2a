/** Promises 39 to 41: editions, numbers that never move, and counts. */
public final class EditionsTest {
    public static void main(String[] args) {
        firstEdition();
        letters();
        struckOnesKeepTheirs();
        byClues();
        lettersRunOut();
        greatestNumber();
        nineEditions();
        counts();
        Checks.end();
    }

    private static void in(LifeList x, int work) {
        Checks.due("in", x.vote(work, 0, 7, 0, false), 1);
    }

    private static void firstEdition() {
        LifeList x = new LifeList();
        x.work(0, 300, 300, 1, 1880, 1890);
        x.work(0, 300, 300, 1, 1850, 1860);
        x.work(0, 300, 300, 1, 1840, 1870);
        x.work(0, 300, 300, 1, 1850, 1861);
        x.work(0, 300, 300, 1, 1800, 1801);
        for (int work = 0; work < 4; work++) {
            in(x, work);
        }
        Checks.due("no number yet", x.number(0), LifeList.NONE);
        Checks.due("four", x.edition(), 4);
        int[] due = {400, 100, 200, 300, LifeList.NONE};
        for (int work = 0; work < due.length; work++) {
            Checks.due("number of " + work, x.number(work), due[work]);
        }
        Checks.due("of 5", x.number(5), LifeList.BAD);
        Checks.due("of -1", x.number(-1), LifeList.BAD);
        Checks.due("none is new", x.edition(), 0);
        Checks.due("they stay", x.number(0), 400);
    }

    private static void letters() {
        LifeList x = new LifeList();
        x.work(0, 300, 300, 1, 1850, 1850);
        x.work(0, 300, 300, 1, 1860, 1860);
        in(x, 0);
        in(x, 1);
        Checks.due("two", x.edition(), 2);
        x.work(0, 300, 300, 1, 1855, 1855);
        x.work(0, 300, 300, 1, 1856, 1856);
        x.work(0, 300, 300, 1, 1840, 1840);
        x.work(0, 300, 300, 1, 1870, 1870);
        for (int work = 2; work < 6; work++) {
            in(x, work);
        }
        Checks.due("four", x.edition(), 4);
        int[] due = {100, 200, 101, 102, 1, 201};
        for (int work = 0; work < due.length; work++) {
            Checks.due("number of " + work, x.number(work), due[work]);
        }
        x.work(0, 300, 300, 1, 1855, 1855);
        x.work(0, 300, 300, 1, 1830, 1830);
        in(x, 6);
        in(x, 7);
        Checks.due("two more", x.edition(), 2);
        Checks.due("the next letter, behind 1a", x.number(6), 103);
        Checks.due("ahead of all", x.number(7), 2);
    }

    private static void struckOnesKeepTheirs() {
        LifeList x = new LifeList();
        for (int i = 0; i < 3; i++) {
            x.work(0, 300, 300, 1, 1850 + i, 1850 + i);
            in(x, i);
        }
        Checks.due("three", x.edition(), 3);
        x.vote(1, 1, 7, 0, true);
        x.work(0, 300, 300, 1, 1851, 1851);
        in(x, 3);
        Checks.due("one", x.edition(), 1);
        Checks.due("a struck one is not ahead", x.number(3), 101);
        Checks.due("it keeps its number", x.number(1), 200);
        x.vote(1, 2, 7, 0, false);
        Checks.due("none is new", x.edition(), 0);
        Checks.due("the same number", x.number(1), 200);
    }

    private static void byClues() {
        LifeList x = new LifeList();
        x.work(0, 300, 300, 1, 1850, 1880);
        x.work(0, 300, 300, 1, 1851, 1871);
        x.clue(1, 0, -9);
        x.clue(0, 1, 5);
        in(x, 0);
        in(x, 1);
        Checks.due("two", x.edition(), 2);
        Checks.due("the first is earlier by clues", x.number(0), 100);
        Checks.due("the second", x.number(1), 200);
        LifeList y = new LifeList();
        y.work(0, 300, 300, 1, 1850, 1880);
        y.work(0, 300, 300, 1, 1851, 1871);
        y.clue(1, 0, -9);
        y.clue(0, 1, 10);
        in(y, 0);
        in(y, 1);
        Checks.due("they quarrel", y.quarrel(), 1);
        Checks.due("two", y.edition(), 2);
        Checks.due("by spans", y.number(0), 200);
        Checks.due("by spans", y.number(1), 100);
    }

    private static void lettersRunOut() {
        LifeList x = new LifeList();
        Checks.due("an edition of none", x.edition(), 0);
        for (int i = 0; i < 28; i++) {
            Checks.painting(x);
            in(x, i);
        }
        Checks.due("26 letters", x.edition(), 26);
        Checks.due("a", x.number(0), 1);
        Checks.due("z", x.number(25), 26);
        Checks.due("beyond", x.number(26), LifeList.NONE);
        Checks.due("beyond", x.number(27), LifeList.NONE);
        Checks.due("nor later", x.edition(), 0);
        Checks.due("three editions", x.count(5), 3);
    }

    private static void greatestNumber() {
        LifeList x = new LifeList();
        for (int i = 0; i < 40; i++) {
            Checks.painting(x);
            if (i < 39) {
                in(x, i);
            }
        }
        Checks.due("39", x.edition(), 39);
        in(x, 39);
        Checks.due("one", x.edition(), 1);
        Checks.due("39a", x.number(39), 3901);
        LifeList y = new LifeList();
        for (int i = 0; i < 40; i++) {
            Checks.painting(y);
            in(y, i);
        }
        Checks.due("40", y.edition(), 40);
        Checks.due("40", y.number(39), 4000);
    }

    private static void nineEditions() {
        LifeList x = new LifeList();
        for (int i = 0; i < 9; i++) {
            Checks.painting(x);
            in(x, i);
            Checks.due("edition " + i, x.edition(), 1);
            Checks.due("its number", x.number(i), 100 + i);
        }
        Checks.painting(x);
        in(x, 9);
        Checks.due("a tenth", x.edition(), LifeList.FULL);
        Checks.due("gives none", x.number(9), LifeList.NONE);
        Checks.due("nine", x.count(5), 9);
    }

    private static void counts() {
        LifeList x = new LifeList();
        Checks.painting(x);
        Checks.painting(x);
        Checks.painting(x);
        x.holding(0, 0, 1850, 1850, 1850, 1850);
        x.holding(0, 0, 1850, 1850, 1850, 1850);
        x.mention(0, 0, 1900, 0, 0, 0, false, 1, -1);
        x.clue(0, 1, 1);
        x.vote(0, 1, 7, 0, false);
        x.vote(1, 1, 7, 0, false);
        x.vote(2, 1, 7, 0, true);
        x.vote(2, 0, 7, 0, false);
        x.edition();
        int[] due = {3, 2, 1, 1, 4, 1, 2, 1};
        for (int what = 0; what < due.length; what++) {
            Checks.due("count " + what, x.count(what), due[what]);
        }
    }
}
