/** Objects to start from: with nothing in them, with a few of everything, with all places taken. */
final class States {
    static final Edges NOTHING = new Edges("nothing", LifeList::new);
    static final Edges SOME = new Edges("some", States::some);
    static final Edges ALL = new Edges("all", States::all);

    private States() {
    }

    /** Works 0 to 3 are of kinds 0 to 3. */
    private static void fourWorks(LifeList x) {
        x.work(0, 300, 200, 3, 1850, 1860);
        x.version(0, 310, 200, 3, 1855, 1865);
        x.work(2, 120, 80, 12, 1850, 1900);
        x.print(2, true, 100, 80, 12, 1880, 1890);
    }

    private static void twoSheets(LifeList x) {
        int[] items = {0, 7, 1850, 1850, 1960, 1970};
        x.sheet(0, 0, 6);
        x.sheet(1, 1, 12);
        for (int i = 0; i < items.length; i++) {
            x.item(0, 0, i, items[i]);
            x.item(1, 1, i, items[i]);
        }
    }

    /** Four works, two holdings, five mentions, two clues, four votes, one edition, a tape begun, two sheets. */
    static LifeList some() {
        LifeList x = new LifeList();
        fourWorks(x);
        x.retitle(0, 1900, 5);
        x.cut(2, 1900, 110, 80);
        x.holding(0, 4, 1860, 1870, 1890, 1910);
        x.holding(0, 5, 1889, 1889, 1950, 1960);
        x.mention(0, 1, 1880, 300, 200, 0, false, 3, 4);
        x.mention(0, 1, 1880, 0, 0, 0, false, 3, -1);
        x.mention(2, 1, 1950, 80, 110, 0, false, 4, -1);
        x.mention(1, 2, 1880, 12, 8, 1, false, 1, -1);
        x.mention(1, 2, 1880, 0, 0, 0, false, 1 << 20, -1);
        x.clue(0, 1, 3);
        x.clue(2, 3, -10);
        x.kin(0, 1 << 4);
        x.kin(7, 1 << 5 | 1);
        x.vote(0, 100, 15, 0, false);
        x.vote(3, 200, 14, 0, false);
        x.vote(1, 300, 6, 8, true);
        x.vote(2, 400, 2, 12, false);
        x.edition();
        Checks.type(x, "v2,1/2");
        twoSheets(x);
        return x;
    }

    /** All that can be full is full, but for sheets 2 and 3, on which there is nothing. */
    static LifeList all() {
        LifeList x = new LifeList();
        fourWorks(x);
        for (int i = 4; i < 40; i++) {
            x.work(i % 2 * 2, 300, 200, 1 << i % 5 | 1 << i % 7, 1850 + i, 1870 + i);
        }
        for (int i = 0; i < 3; i++) {
            x.retitle(0, 1900 + i, 5 + i);
        }
        x.cut(2, 1900, 110, 80);
        for (int i = 0; i < 60; i++) {
            x.holding(i % 5, i % 20, 1850 + i, 1851 + i, 1855 + i, 1857 + i);
        }
        for (int i = 0; i < 50; i++) {
            x.mention(i % 3, i / 9, 1900, 0, 0, 0, false, 1 << i % 5, -1);
        }
        for (int i = 0; i < 20; i++) {
            x.clue(4 + i, 5 + i, 1 + i % 2);
        }
        x.kin(0, 1 << 4);
        for (int i = 0; i < 60; i++) {
            x.vote(i % 30, i, i % 11 == 0 ? 56 : 15, 0, i % 13 == 0);
        }
        for (int i = 0; i < 9; i++) {
            x.edition();
        }
        Checks.type(x, "p2,1/2;v2,1/3;d2,1/4;r2,1/5                       ");
        twoSheets(x);
        return x;
    }
}
