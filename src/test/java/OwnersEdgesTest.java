/** Promises 10 to 15 at their edges: holdings and what they tell. */
public final class OwnersEdgesTest {
    private static final int BAD = LifeList.BAD, NOT = LifeList.NOT, FULL = LifeList.FULL, NONE = LifeList.NONE;
    private static final Edges SOME = States.SOME, ALL = States.ALL, NOTHING = States.NOTHING;

    public static void main(String[] args) {
        promise10();
        promise10Years();
        promise10Full();
        promise11();
        promise12();
        promise13();
        promise14();
        promise14Order();
        promise15();
        Checks.end();
    }

    private static LifeList held(int... holdings) {
        LifeList x = new LifeList();
        Checks.painting(x);
        Checks.painting(x);
        for (int i = 0; i + 5 < holdings.length; i += 6) {
            x.holding(holdings[i], holdings[i + 1], holdings[i + 2], holdings[i + 3], holdings[i + 4], holdings[i + 5]);
        }
        Checks.due("all came", x.count(1), holdings.length / 6);
        return x;
    }

    private static void promise10() {
        SOME.range("holding, work", 0, 3, (x, n) -> x.holding(n, 0, 1850, 1851, 1852, 1853));
        SOME.range("holding, owner", 0, 19, (x, n) -> x.holding(0, n, 1850, 1851, 1852, 1853));
        SOME.taken("its number", 2, x -> x.holding(0, 0, 1850, 1851, 1852, 1853));
        NOTHING.refused("of no work", BAD, x -> x.holding(0, 0, 1850, 1851, 1852, 1853));
        SOME.taken("all years", 2, x -> x.holding(3, 19, 1800, 1800, 1999, 1999));
        SOME.taken("the first year", 2, x -> x.holding(3, 19, 1800, 1800, 1800, 1800));
        SOME.taken("the last year", 2, x -> x.holding(3, 19, 1999, 1999, 1999, 1999));
        SOME.refused("a year ahead of all", BAD, x -> x.holding(0, 0, 1799, 1799, 1799, 1799));
        SOME.refused("a year behind all", BAD, x -> x.holding(0, 0, 2000, 2000, 2000, 2000));
    }

    /** a no more than b, c; d no less than b, c; b and c as they like. */
    private static void promise10Years() {
        SOME.range("a, up to b", 1800, 1850, (x, n) -> x.holding(0, 0, n, 1850, 1860, 1870));
        SOME.range("a, up to c", 1800, 1850, (x, n) -> x.holding(0, 0, n, 1860, 1850, 1870));
        SOME.range("b, from a to d, behind c", 1850, 1870, (x, n) -> x.holding(0, 0, 1850, n, 1850, 1870));
        SOME.range("b, from a to d, ahead of c", 1850, 1870, (x, n) -> x.holding(0, 0, 1850, n, 1870, 1870));
        SOME.range("c, from a to d, behind b", 1850, 1870, (x, n) -> x.holding(0, 0, 1850, 1850, n, 1870));
        SOME.range("c, from a to d, ahead of b", 1850, 1870, (x, n) -> x.holding(0, 0, 1850, 1870, n, 1870));
        SOME.range("d, from c on", 1860, 1999, (x, n) -> x.holding(0, 0, 1800, 1850, 1860, n));
        SOME.range("d, from b on", 1860, 1999, (x, n) -> x.holding(0, 0, 1800, 1860, 1850, n));
        SOME.range("b, all years", 1800, 1999, (x, n) -> x.holding(0, 0, 1800, n, 1900, 1999));
        SOME.range("c, all years", 1800, 1999, (x, n) -> x.holding(0, 0, 1800, 1900, n, 1999));
    }

    private static void promise10Full() {
        ALL.refused("a 61st", FULL, x -> x.holding(0, 0, 1850, 1851, 1852, 1853));
        ALL.bad("BAD ahead of FULL, work", (x, n) -> x.holding(n, 0, 1850, 1851, 1852, 1853), -1, 40);
        ALL.bad("BAD ahead of FULL, owner", (x, n) -> x.holding(0, n, 1850, 1851, 1852, 1853), -1, 20);
        ALL.bad("BAD ahead of FULL, a", (x, n) -> x.holding(0, 0, n, 1851, 1852, 1853), 1799, 1852);
        ALL.bad("BAD ahead of FULL, d", (x, n) -> x.holding(0, 0, 1850, 1851, 1852, n), 1851, 2000);
        LifeList x = held();
        for (int i = 0; i < 60; i++) {
            Checks.due("numbered as they come", x.holding(i % 2, i % 20, 1850, 1850, 1850, 1850), i);
        }
        Checks.due("a 61st", x.holding(0, 0, 1850, 1850, 1850, 1850), FULL);
        Checks.due("60", x.count(1), 60);
    }

    private static void promise11() {
        NOTHING.refused("there is none", NOT, LifeList::unhold);
        SOME.taken("one is left", 1, LifeList::unhold);
        ALL.taken("59 are left", 59, LifeList::unhold);
        LifeList x = States.some();
        Checks.due("the second holds", x.owner(0, 1900), 5);
        Checks.due("one is left", x.unhold(), 1);
        Checks.due("the latest went", x.owner(0, 1900), NONE);
        Checks.due("the first did not", x.owner(0, 1880), 4);
        Checks.due("it may no more", x.may(0, 1950), 0);
        Checks.due("its number is free", x.holding(0, 6, 1950, 1950, 1950, 1950), 1);
        Checks.due("what comes then is the new one", x.may(0, 1950), 1 << 6);
        Checks.due("and nothing of the old one", x.may(0, 1951), 0);
        Checks.due("one is left", x.unhold(), 1);
        Checks.due("none is left", x.unhold(), 0);
        Checks.due("there is none", x.unhold(), NOT);
        Checks.due("still", x.unhold(), NOT);
        Checks.due("a first one again", x.holding(0, 6, 1950, 1950, 1950, 1950), 0);
        LifeList y = States.all();
        Checks.due("59 are left", y.unhold(), 59);
        Checks.due("there is room for one", y.holding(0, 0, 1850, 1850, 1850, 1850), 59);
        Checks.due("and no more", y.holding(0, 0, 1850, 1850, 1850, 1850), FULL);
    }

    private static void promise12() {
        SOME.range("owner, work", 0, 3, (x, n) -> x.owner(n, 1880));
        SOME.range("owner, year", 1800, 1999, (x, n) -> x.owner(0, n));
        ALL.range("owner, work", 0, 39, (x, n) -> x.owner(n, 1880));
        int[][] due = {{1869, NONE}, {1870, 4}, {1888, 4}, {1889, NONE}, {1890, NONE}, {1891, 5}, {1950, 5},
            {1951, NONE}};
        for (int[] row : due) {
            SOME.asked("owner in " + row[0], row[1], x -> x.owner(0, row[0]));
        }
        LifeList x = held(0, 0, 1800, 1800, 1999, 1999, 1, 19, 1850, 1860, 1850, 1860, 1, 3, 1900, 1900, 1901, 1901,
                1, 3, 1901, 1901, 1902, 1902, 1, 2, 1902, 1902, 1902, 1902);
        Checks.due("owner 0 in the first year", x.owner(0, 1800), 0);
        Checks.due("owner 0 in the last year", x.owner(0, 1999), 0);
        for (int year = 1849; year <= 1861; year++) {
            Checks.due("began behind its end, " + year, x.owner(1, year), NONE);
        }
        Checks.due("one holding", x.owner(1, 1900), 3);
        Checks.due("two holdings of one owner", x.owner(1, 1901), 3);
        Checks.due("two owners", x.owner(1, 1902), NONE);
        x.holding(1, 3, 1902, 1902, 1902, 1902);
        Checks.due("two owners, one of them last again", x.owner(1, 1902), NONE);
    }

    private static void promise13() {
        SOME.range("may, work", 0, 3, (x, n) -> x.may(n, 1880));
        SOME.range("may, year", 1800, 1999, (x, n) -> x.may(0, n));
        ALL.range("may, work", 0, 39, (x, n) -> x.may(n, 1880));
        int[][] due = {{1859, 0}, {1860, 1 << 4}, {1888, 1 << 4}, {1889, 1 << 4 | 1 << 5}, {1910, 1 << 4 | 1 << 5},
            {1911, 1 << 5}, {1960, 1 << 5}, {1961, 0}};
        for (int[] row : due) {
            SOME.asked("may in " + row[0], row[1], x -> x.may(0, row[0]));
            SOME.asked("another's may in " + row[0], 0, x -> x.may(1, row[0]));
        }
        LifeList x = held(0, 0, 1800, 1850, 1850, 1999, 0, 19, 1800, 1800, 1999, 1999, 1, 7, 1850, 1860, 1850, 1860);
        Checks.due("the first year", x.may(0, 1800), 1 | 1 << 19);
        Checks.due("the last year", x.may(0, 1999), 1 | 1 << 19);
        int[][] late = {{1849, 0}, {1850, 1 << 7}, {1855, 1 << 7}, {1860, 1 << 7}, {1861, 0}};
        for (int[] row : late) {
            Checks.due("began behind its end, " + row[0], x.may(1, row[0]), row[1]);
        }
        LifeList y = held();
        for (int owner = 0; owner < 20; owner++) {
            y.holding(0, owner, 1850, 1850, 1850, 1850);
        }
        Checks.due("all owners", y.may(0, 1850), (1 << 20) - 1);
    }

    private static int twiceOf(int... years) {
        return held(0, 1, years[0], years[1], years[2], years[3], 0, 2, years[4], years[5], years[6], years[7]).twice(0);
    }

    private static void promise14() {
        SOME.range("twice", 0, 3, (x, n) -> x.twice(n));
        ALL.range("twice", 0, 39, (x, n) -> x.twice(n));
        SOME.asked("1889 and 1890", 1, x -> x.twice(0));
        SOME.refused("another work", NONE, x -> x.twice(1));
        Checks.due("a year alone", twiceOf(1850, 1850, 1860, 1860, 1860, 1860, 1870, 1870), NONE);
        Checks.due("a year and the next", twiceOf(1850, 1850, 1861, 1861, 1860, 1860, 1870, 1870), 1);
        Checks.due("the other way", twiceOf(1860, 1860, 1870, 1870, 1850, 1850, 1861, 1861), 1);
        Checks.due("no year", twiceOf(1850, 1850, 1860, 1860, 1861, 1861, 1870, 1870), NONE);
        Checks.due("only may", twiceOf(1850, 1850, 1860, 1870, 1850, 1860, 1870, 1870), NONE);
        Checks.due("the first two years", twiceOf(1800, 1800, 1801, 1801, 1800, 1800, 1801, 1801), 1);
        Checks.due("the last two years", twiceOf(1998, 1998, 1999, 1999, 1998, 1998, 1999, 1999), 1);
        Checks.due("the last year alone", twiceOf(1998, 1998, 1999, 1999, 1999, 1999, 1999, 1999), NONE);
        Checks.due("one within the other", twiceOf(1800, 1800, 1999, 1999, 1850, 1850, 1851, 1851), 1);
        Checks.due("one year within", twiceOf(1800, 1800, 1999, 1999, 1850, 1850, 1850, 1850), NONE);
        Checks.due("one never surely", twiceOf(1800, 1800, 1999, 1999, 1850, 1851, 1850, 1851), NONE);
        LifeList x = held(0, 1, 1850, 1850, 1860, 1860, 0, 1, 1850, 1850, 1860, 1860);
        Checks.due("one owner", x.twice(0), NONE);
        LifeList y = held(0, 1, 1850, 1850, 1860, 1860, 1, 2, 1850, 1850, 1860, 1860);
        Checks.due("two works", y.twice(0), NONE);
        Checks.due("two works", y.twice(1), NONE);
    }

    private static void promise14Order() {
        LifeList x = held(1, 0, 1800, 1800, 1999, 1999, 0, 1, 1850, 1850, 1852, 1852, 0, 2, 1860, 1860, 1870, 1870,
                0, 3, 1865, 1865, 1875, 1875);
        Checks.due("2 and 3", x.twice(0), 203);
        x.holding(0, 4, 1866, 1866, 1868, 1868);
        Checks.due("2 and 3, ahead of 2 and 4", x.twice(0), 203);
        x.holding(0, 5, 1851, 1851, 1852, 1852);
        Checks.due("1 and 5, ahead of 2 and 3", x.twice(0), 105);
        x.holding(1, 6, 1998, 1998, 1999, 1999);
        Checks.due("0 and 6 of the other", x.twice(1), 6);
        x.unhold();
        x.unhold();
        Checks.due("without 5 again", x.twice(0), 203);
        LifeList y = held();
        for (int i = 0; i < 58; i++) {
            y.holding(0, 0, 1850, 1850, 1850, 1850);
        }
        y.holding(1, 0, 1850, 1850, 1851, 1851);
        y.holding(1, 1, 1850, 1850, 1851, 1851);
        Checks.due("the last two", y.twice(1), 5859);
    }

    private static void promise15() {
        SOME.range("gap, work", 0, 3, (x, n) -> x.gap(n, 1880));
        SOME.range("gap, from", 1800, 1999, (x, n) -> x.gap(0, n));
        ALL.range("gap, work", 0, 39, (x, n) -> x.gap(n, 1880));
        int[][] due = {{1800, 1800}, {1859, 1859}, {1860, 1961}, {1910, 1961}, {1960, 1961}, {1961, 1961}, {1999, 1999}};
        for (int[] row : due) {
            SOME.asked("gap from " + row[0], row[1], x -> x.gap(0, row[0]));
        }
        LifeList x = held(0, 1, 1800, 1810, 1815, 1850, 0, 2, 1851, 1852, 1853, 1899, 0, 3, 1901, 1902, 1903, 1999,
                1, 4, 1800, 1999, 1800, 1999);
        Checks.due("one year", x.gap(0, 1800), 1900);
        Checks.due("from that year", x.gap(0, 1900), 1900);
        Checks.due("none behind it", x.gap(0, 1901), NONE);
        Checks.due("none in the last year", x.gap(0, 1999), NONE);
        Checks.due("all years that one only may", x.gap(1, 1800), NONE);
        LifeList y = held(0, 1, 1800, 1810, 1815, 1998);
        Checks.due("the last year", y.gap(0, 1800), 1999);
        Checks.due("of one that nobody ever held", y.gap(1, 1999), 1999);
        LifeList z = held(0, 1, 1801, 1810, 1815, 1999);
        Checks.due("the first year", z.gap(0, 1800), 1800);
        Checks.due("none from the second on", z.gap(0, 1801), NONE);
    }
}
