/** Promises 42 to 45: sheets that may be missing, and holdings told on them. */
public final class SheetsTest {
    private static final int SHORTS = 0, INTS = 1, LONGS = 2;

    public static void main(String[] args) {
        sheets();
        items();
        lanes();
        refusedHoldings();
        holdingsOfEachLane();
        itemsInTheirPlaces();
        fullOfHoldings();
        Checks.end();
    }

    private static void sheets() {
        LifeList x = new LifeList();
        Checks.due("sheet -1", x.sheet(-1, 0, 1), LifeList.BAD);
        Checks.due("sheet 4", x.sheet(4, 0, 1), LifeList.BAD);
        Checks.due("lane -1", x.sheet(0, -1, 1), LifeList.BAD);
        Checks.due("lane 3", x.sheet(0, 3, 1), LifeList.BAD);
        Checks.due("n 61", x.sheet(0, 0, 61), LifeList.BAD);
        Checks.due("n -1", x.sheet(0, 0, -1), LifeList.SIZE);
        Checks.due("n least of all", x.sheet(0, 0, Integer.MIN_VALUE), LifeList.SIZE);
        Checks.due("BAD ahead of SIZE", x.sheet(0, 3, -1), LifeList.BAD);
        Checks.due("still nothing", x.drop(0), LifeList.NULL);
        Checks.due("60 items", x.sheet(0, 0, 60), 60);
        Checks.due("no items", x.sheet(3, 2, 0), 0);
        Checks.due("in place of the other", x.sheet(0, 1, 7), 7);
        Checks.due("a wrong one changes nothing", x.sheet(0, 1, -5), LifeList.SIZE);
        Checks.due("drop -1", x.drop(-1), LifeList.BAD);
        Checks.due("drop 4", x.drop(4), LifeList.BAD);
        Checks.due("7", x.drop(0), 7);
        Checks.due("nothing now", x.drop(0), LifeList.NULL);
        Checks.due("0", x.drop(3), 0);
        Checks.due("nothing now", x.drop(3), LifeList.NULL);
    }

    private static void items() {
        LifeList x = new LifeList();
        Checks.due("sheet 4", x.item(4, 0, 0, 0), LifeList.BAD);
        Checks.due("lane 3", x.item(0, 3, 0, 0), LifeList.BAD);
        Checks.due("nothing", x.item(0, 0, -1, 0), LifeList.NULL);
        x.sheet(0, INTS, 5);
        Checks.due("another lane", x.item(0, SHORTS, -1, 0), LifeList.CAST);
        Checks.due("another lane", x.item(0, LONGS, 0, 0), LifeList.CAST);
        Checks.due("-1", x.item(0, INTS, -1, 0), LifeList.INDEX);
        Checks.due("5", x.item(0, INTS, 5, 0), LifeList.INDEX);
        Checks.due("far", x.item(0, INTS, Integer.MAX_VALUE, 0), LifeList.INDEX);
        Checks.due("far", x.item(0, INTS, Integer.MIN_VALUE, 0), LifeList.INDEX);
        Checks.due("0", x.item(0, INTS, 0, 0), 1);
        Checks.due("4", x.item(0, INTS, 4, Integer.MIN_VALUE), 1);
        x.sheet(1, INTS, 0);
        Checks.due("of an empty row", x.item(1, INTS, 0, 0), LifeList.INDEX);
    }

    private static void lay(LifeList x, int sheet, int lane, int from, int... items) {
        for (int i = 0; i < items.length; i++) {
            Checks.due("item", x.item(sheet, lane, from + i, items[i]), 1);
        }
    }

    private static void lanes() {
        // 65536 more is the same short, and another int or long.
        int[] due = {1, LifeList.NOT, LifeList.NOT};
        for (int lane = 0; lane < 3; lane++) {
            LifeList x = new LifeList();
            Checks.painting(x);
            x.sheet(2, lane, 6);
            lay(x, 2, lane, 0, 0, 3, 1850 + 65536, 1860, 1870, 1880);
            Checks.due("lane " + lane, x.holdings(2, lane, 0, 1), due[lane]);
            lay(x, 2, lane, 2, 1850 - 65536);
            Checks.due("lane " + lane, x.holdings(2, lane, 0, 1), due[lane] == 1 ? 2 : due[lane]);
            lay(x, 2, lane, 2, 1850 + 32768);
            Checks.due("lane " + lane, x.holdings(2, lane, 0, 1), LifeList.NOT);
        }
    }

    private static void refusedHoldings() {
        LifeList x = new LifeList();
        Checks.due("n -1", x.holdings(0, 0, 0, -1), LifeList.BAD);
        Checks.due("n 11", x.holdings(0, 0, 0, 11), LifeList.BAD);
        Checks.due("sheet -1", x.holdings(-1, 0, 0, 0), LifeList.BAD);
        Checks.due("lane 3", x.holdings(0, 3, 0, 0), LifeList.BAD);
        Checks.due("nothing", x.holdings(0, 0, -1, 0), LifeList.NULL);
        x.sheet(0, SHORTS, 12);
        Checks.due("another lane", x.holdings(0, INTS, -1, 0), LifeList.CAST);
        Checks.due("from -1", x.holdings(0, SHORTS, -1, 0), LifeList.INDEX);
        Checks.due("from 13", x.holdings(0, SHORTS, 13, 0), LifeList.INDEX);
        Checks.due("from the end, none", x.holdings(0, SHORTS, 12, 0), 0);
        Checks.due("one too many", x.holdings(0, SHORTS, 7, 1), LifeList.INDEX);
        Checks.due("far", x.holdings(0, SHORTS, Integer.MAX_VALUE, 1), LifeList.INDEX);
        Checks.due("far", x.holdings(0, SHORTS, Integer.MIN_VALUE, 10), LifeList.INDEX);
        Checks.due("of no work", x.holdings(0, SHORTS, 0, 1), LifeList.NOT);
        Checks.painting(x);
        lay(x, 0, SHORTS, 0, 0, 1, 1850, 1851, 1852, 1853);
        Checks.due("the second is not as told", x.holdings(0, SHORTS, 0, 2), LifeList.NOT);
        Checks.due("neither came", x.count(1), 0);
        lay(x, 0, SHORTS, 6, 0, 20, 1850, 1851, 1852, 1853);
        Checks.due("owner 20", x.holdings(0, SHORTS, 6, 1), LifeList.NOT);
        lay(x, 0, SHORTS, 6, 0, 19, 1850, 1849, 1852, 1853);
        Checks.due("b below a", x.holdings(0, SHORTS, 6, 1), LifeList.NOT);
        lay(x, 0, SHORTS, 9, 1850);
        Checks.due("both", x.holdings(0, SHORTS, 0, 2), 2);
        Checks.due("who may", x.may(0, 1850), 2 | 1 << 19);
    }

    private static void holdingsOfEachLane() {
        for (int lane = 0; lane < 3; lane++) {
            LifeList x = new LifeList();
            Checks.painting(x);
            Checks.painting(x);
            x.sheet(lane, lane, 60);
            for (int i = 0; i < 9; i++) {
                lay(x, lane, lane, 3 + 6 * i, 1, i, 1850 + i, 1850 + i, 1850 + i, 1850 + i);
            }
            Checks.due("nine", x.holdings(lane, lane, 3, 9), 9);
            for (int i = 0; i < 9; i++) {
                Checks.due("owner", x.owner(1, 1850 + i), i);
            }
            Checks.due("not of the other", x.may(0, 1850), 0);
            x.sheet(lane, lane, 60);
            Checks.due("a new row is of zeros", x.holdings(lane, lane, 3, 1), LifeList.NOT);
        }
    }

    private static void itemsInTheirPlaces() {
        LifeList x = new LifeList();
        Checks.painting(x);
        x.sheet(0, INTS, 6);
        lay(x, 0, INTS, 0, 0, 5, 1850, 1860, 1870, 1880);
        Checks.due("one", x.holdings(0, INTS, 0, 1), 1);
        Checks.due("ahead of a", x.may(0, 1849), 0);
        Checks.due("a", x.may(0, 1850), 1 << 5);
        Checks.due("ahead of b", x.owner(0, 1859), LifeList.NONE);
        Checks.due("b", x.owner(0, 1860), 5);
        Checks.due("c", x.owner(0, 1870), 5);
        Checks.due("behind c", x.owner(0, 1871), LifeList.NONE);
        Checks.due("d", x.may(0, 1880), 1 << 5);
        Checks.due("behind d", x.may(0, 1881), 0);
        int[][] wrong = {{1850, 1849, 1870, 1880}, {1850, 1860, 1849, 1880}, {1850, 1881, 1870, 1880},
            {1850, 1860, 1881, 1880}, {1799, 1860, 1870, 1880}, {1850, 1860, 1870, 2000}};
        for (int[] years : wrong) {
            lay(x, 0, INTS, 2, years);
            Checks.due("not as told", x.holdings(0, INTS, 0, 1), LifeList.NOT);
        }
        x.sheet(0, INTS, 6);
        lay(x, 0, INTS, 2, 1900, 1900, 1900, 1900);
        Checks.due("a new row is of zeros", x.holdings(0, INTS, 0, 1), 2);
        Checks.due("owner 0 of work 0", x.owner(0, 1900), 0);
    }

    private static void fullOfHoldings() {
        LifeList x = new LifeList();
        Checks.painting(x);
        x.sheet(0, LONGS, 60);
        for (int i = 0; i < 10; i++) {
            lay(x, 0, LONGS, 6 * i, 0, i, 1850, 1850, 1850, 1850);
        }
        for (int i = 1; i <= 5; i++) {
            Checks.due("ten more", x.holdings(0, LONGS, 0, 10), 10 * i);
        }
        Checks.due("51", x.holdings(0, LONGS, 0, 1), 51);
        Checks.due("61", x.holdings(0, LONGS, 0, 10), LifeList.FULL);
        Checks.due("none of them came", x.count(1), 51);
        Checks.due("60", x.holdings(0, LONGS, 6, 9), 60);
        Checks.due("no more", x.holdings(0, LONGS, 0, 1), LifeList.FULL);
        Checks.due("none at all", x.holdings(0, LONGS, 0, 0), 60);
        lay(x, 0, LONGS, 0, 1);
        Checks.due("NOT ahead of FULL", x.holdings(0, LONGS, 0, 1), LifeList.NOT);
        Checks.due("another sheet", x.holdings(1, LONGS, 0, 1), LifeList.NULL);
    }
}
