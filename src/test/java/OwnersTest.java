/** Promises 10 to 15: holdings and what they tell. */
public final class OwnersTest {
    public static void main(String[] args) {
        wrongHoldings();
        edgesOfHoldings();
        theOwner();
        whoMay();
        twoAtOnce();
        gaps();
        backAndFull();
        Checks.end();
    }

    private static void wrongHoldings() {
        LifeList x = new LifeList();
        Checks.due("of no work", x.holding(0, 0, 1850, 1851, 1852, 1853), LifeList.BAD);
        Checks.painting(x);
        Checks.due("owner -1", x.holding(0, -1, 1850, 1851, 1852, 1853), LifeList.BAD);
        Checks.due("owner 20", x.holding(0, 20, 1850, 1851, 1852, 1853), LifeList.BAD);
        Checks.due("a 1799", x.holding(0, 0, 1799, 1851, 1852, 1853), LifeList.BAD);
        Checks.due("d 2000", x.holding(0, 0, 1850, 1851, 1852, 2000), LifeList.BAD);
        Checks.due("a above b", x.holding(0, 0, 1852, 1851, 1852, 1853), LifeList.BAD);
        Checks.due("a above c", x.holding(0, 0, 1851, 1852, 1850, 1853), LifeList.BAD);
        Checks.due("d below b", x.holding(0, 0, 1850, 1854, 1852, 1853), LifeList.BAD);
        Checks.due("d below c", x.holding(0, 0, 1850, 1851, 1854, 1853), LifeList.BAD);
        Checks.due("none came", x.count(1), 0);
        Checks.due("none to take back", x.unhold(), LifeList.NOT);
    }

    private static void edgesOfHoldings() {
        LifeList x = new LifeList();
        Checks.painting(x);
        Checks.due("all years", x.holding(0, 19, 1800, 1800, 1999, 1999), 0);
        Checks.due("one year", x.holding(0, 0, 1850, 1850, 1850, 1850), 1);
        Checks.due("b behind c", x.holding(0, 0, 1850, 1860, 1855, 1860), 2);
        Checks.due("three", x.count(1), 3);
    }

    private static void theOwner() {
        LifeList x = new LifeList();
        Checks.painting(x);
        Checks.painting(x);
        x.holding(0, 3, 1850, 1855, 1860, 1865);
        x.holding(0, 3, 1860, 1860, 1870, 1870);
        x.holding(0, 4, 1865, 1868, 1872, 1880);
        x.holding(0, 5, 1880, 1890, 1885, 1890);
        int none = LifeList.NONE;
        int[] years = {1854, 1855, 1860, 1867, 1868, 1870, 1871, 1872, 1873, 1887};
        int[] due = {none, 3, 3, 3, none, none, 4, 4, none, none};
        for (int i = 0; i < years.length; i++) {
            Checks.due("owner in " + years[i], x.owner(0, years[i]), due[i]);
        }
        Checks.due("of another work", x.owner(1, 1856), none);
        Checks.due("of no work", x.owner(2, 1856), LifeList.BAD);
        Checks.due("in 1799", x.owner(0, 1799), LifeList.BAD);
        Checks.due("in 2000", x.owner(0, 2000), LifeList.BAD);
    }

    private static void whoMay() {
        LifeList x = new LifeList();
        Checks.painting(x);
        Checks.painting(x);
        x.holding(0, 0, 1850, 1855, 1860, 1865);
        x.holding(0, 19, 1865, 1866, 1866, 1870);
        x.holding(1, 7, 1800, 1800, 1999, 1999);
        int[] years = {1849, 1850, 1864, 1865, 1866, 1870, 1871};
        int[] due = {0, 1, 1, 1 | 1 << 19, 1 << 19, 1 << 19, 0};
        for (int i = 0; i < years.length; i++) {
            Checks.due("may in " + years[i], x.may(0, years[i]), due[i]);
        }
        Checks.due("of the other work", x.may(1, 1800), 1 << 7);
        Checks.due("of no work", x.may(-1, 1850), LifeList.BAD);
        Checks.due("in 2000", x.may(0, 2000), LifeList.BAD);
    }

    private static void twoAtOnce() {
        LifeList x = new LifeList();
        Checks.painting(x);
        Checks.painting(x);
        x.holding(1, 9, 1800, 1800, 1999, 1999);
        x.holding(0, 1, 1850, 1850, 1860, 1860);
        x.holding(0, 1, 1855, 1855, 1865, 1865);
        Checks.due("one owner", x.twice(0), LifeList.NONE);
        x.holding(0, 2, 1865, 1865, 1880, 1880);
        Checks.due("one year in common", x.twice(0), LifeList.NONE);
        x.holding(0, 3, 1879, 1879, 1890, 1890);
        Checks.due("a year and the next", x.twice(0), 304);
        x.holding(0, 4, 1850, 1855, 1853, 1855);
        Checks.due("never surely", x.twice(0), 304);
        x.holding(0, 2, 1859, 1859, 1861, 1861);
        Checks.due("a lesser first", x.twice(0), 106);
        Checks.due("the other work", x.twice(1), LifeList.NONE);
        Checks.due("no work", x.twice(2), LifeList.BAD);
        LifeList y = new LifeList();
        Checks.painting(y);
        y.holding(0, 0, 1850, 1850, 1860, 1860);
        y.holding(0, 1, 1800, 1859, 1900, 1999);
        Checks.due("0 and 1", y.twice(0), 1);
    }

    private static void gaps() {
        LifeList x = new LifeList();
        Checks.painting(x);
        Checks.due("nobody ever", x.gap(0, 1800), 1800);
        x.holding(0, 1, 1800, 1810, 1820, 1830);
        x.holding(0, 2, 1831, 1832, 1832, 1840);
        x.holding(0, 3, 1842, 1845, 1990, 1999);
        Checks.due("from the first year", x.gap(0, 1800), 1841);
        Checks.due("from the gap itself", x.gap(0, 1841), 1841);
        Checks.due("behind the gap", x.gap(0, 1842), LifeList.NONE);
        Checks.due("from 1799", x.gap(0, 1799), LifeList.BAD);
        Checks.due("from 2000", x.gap(0, 2000), LifeList.BAD);
        Checks.due("of no work", x.gap(1, 1850), LifeList.BAD);
        x.unhold();
        Checks.due("from the last year", x.gap(0, 1999), 1999);
    }

    private static void backAndFull() {
        LifeList x = new LifeList();
        Checks.painting(x);
        for (int i = 0; i < 60; i++) {
            Checks.due("holding", x.holding(0, i % 20, 1850, 1850, 1850, 1850), i);
        }
        Checks.due("a 61st", x.holding(0, 0, 1850, 1850, 1850, 1850), LifeList.FULL);
        Checks.due("BAD ahead of FULL", x.holding(1, 0, 1850, 1850, 1850, 1850), LifeList.BAD);
        Checks.due("the latest goes", x.unhold(), 59);
        Checks.due("its place is free", x.holding(0, 7, 1900, 1900, 1900, 1900), 59);
        Checks.due("and is the new one's", x.may(0, 1900), 1 << 7);
        for (int left = 59; left >= 0; left--) {
            Checks.due("back", x.unhold(), left);
        }
        Checks.due("none is left", x.unhold(), LifeList.NOT);
        Checks.due("nobody may", x.may(0, 1850), 0);
    }
}
