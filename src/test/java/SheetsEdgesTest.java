/** Promises 42 to 45 at their edges: sheets that may be missing, and holdings told on them. */
public final class SheetsEdgesTest {
    private static final int BAD = LifeList.BAD, NOT = LifeList.NOT, FULL = LifeList.FULL, NONE = LifeList.NONE;
    private static final int NULL = LifeList.NULL, CAST = LifeList.CAST, INDEX = LifeList.INDEX, SIZE = LifeList.SIZE;
    private static final int LEAST = Integer.MIN_VALUE, MOST = Integer.MAX_VALUE;
    private static final int SHORTS = 0, INTS = 1, LONGS = 2;
    private static final Edges SOME = States.SOME, ALL = States.ALL, NOTHING = States.NOTHING;

    public static void main(String[] args) {
        promise42();
        promise42NewRows();
        promise43();
        promise44();
        promise44LowestBits();
        promise45();
        promise45Order();
        promise45Index();
        promise45NotAsTold();
        promise45AllOrNone();
        promise45Full();
        Checks.end();
    }

    /** A painting and a sheet 2 of a lane with one holding behind another. */
    private static LifeList laid(int lane, int n, int... items) {
        LifeList x = new LifeList();
        Checks.painting(x);
        Checks.due("a row", x.sheet(2, lane, n), n);
        lay(x, lane, 0, items);
        return x;
    }

    private static void lay(LifeList x, int lane, int from, int... items) {
        for (int i = 0; i < items.length; i++) {
            Checks.due("item", x.item(2, lane, from + i, items[i]), 1);
        }
    }

    private static void promise42() {
        SOME.range("sheet", 0, 3, (x, n) -> x.sheet(n, 0, 6));
        SOME.range("lane", 0, 2, (x, n) -> x.sheet(0, n, 6));
        SOME.bad("n", (x, n) -> x.sheet(0, 0, n), 61, 62, MOST);
        for (int i = 0; i < 3; i++) {
            int lane = i;
            SOME.taken("no items", 0, x -> x.sheet(3, lane, 0));
            SOME.taken("one item", 1, x -> x.sheet(3, lane, 1));
            SOME.taken("59 items", 59, x -> x.sheet(3, lane, 59));
            SOME.taken("60 items", 60, x -> x.sheet(3, lane, 60));
            SOME.refused("61 items", BAD, x -> x.sheet(3, lane, 61));
            SOME.refused("n below 0, nothing there", SIZE, x -> x.sheet(3, lane, -1));
            SOME.refused("n below 0, a row there", SIZE, x -> x.sheet(0, lane, -1));
            SOME.refused("n far below 0", SIZE, x -> x.sheet(1, lane, LEAST));
        }
        SOME.bad("BAD ahead of SIZE, sheet", (x, n) -> x.sheet(n, 0, -1), -1, 4, LEAST, MOST);
        SOME.bad("BAD ahead of SIZE, lane", (x, n) -> x.sheet(0, n, -1), -1, 3, LEAST, MOST);
        ALL.taken("all else is full", 60, x -> x.sheet(3, LONGS, 60));
        NOTHING.taken("nothing else is there", 60, x -> x.sheet(3, LONGS, 60));
    }

    private static void promise42NewRows() {
        for (int lane = 0; lane < 3; lane++) {
            LifeList x = laid(lane, 6, 0, 3, 1850, 1860, 1870, 1880);
            Checks.due("it is there", x.holdings(2, lane, 0, 1), 1);
            Checks.due("a new row of the same lane", x.sheet(2, lane, 6), 6);
            Checks.due("is of zeros", x.holdings(2, lane, 0, 1), NOT);
            lay(x, lane, 2, 1900, 1900, 1900, 1900);
            Checks.due("work 0, owner 0", x.holdings(2, lane, 0, 1), 2);
            Checks.due("owner 0", x.owner(0, 1900), 0);
            int other = (lane + 1) % 3;
            Checks.due("a new row of another lane", x.sheet(2, other, 60), 60);
            Checks.due("the old lane is gone", x.item(2, lane, 0, 0), CAST);
            Checks.due("is of zeros", x.holdings(2, other, 0, 1), NOT);
            Checks.due("up to its end", x.item(2, other, 59, 0), 1);
            Checks.due("a new row of no items", x.sheet(2, other, 0), 0);
            Checks.due("has none", x.item(2, other, 0, 0), INDEX);
            Checks.due("dropped", x.drop(2), 0);
        }
    }

    private static void promise43() {
        SOME.range("drop", 0, 3, (x, n) -> x.drop(n));
        NOTHING.range("drop", 0, 3, (x, n) -> x.drop(n));
        SOME.taken("6 items", 6, x -> x.drop(0));
        SOME.taken("12 items", 12, x -> x.drop(1));
        SOME.refused("nothing", NULL, x -> x.drop(2));
        SOME.refused("nothing", NULL, x -> x.drop(3));
        SOME.shown("nothing then", NULL, x -> x.drop(0), x -> x.drop(0));
        SOME.shown("nothing to set", NULL, x -> x.drop(0), x -> x.item(0, 0, 0, 0));
        SOME.shown("nothing to take", NULL, x -> x.drop(0), x -> x.holdings(0, 0, 0, 0));
        SOME.shown("the other stays", 12, x -> x.drop(0), x -> x.drop(1));
        SOME.shown("60 items", 60, x -> x.sheet(3, LONGS, 60), x -> x.drop(3));
        SOME.shown("no items are not nothing", 0, x -> x.sheet(3, LONGS, 0), x -> x.drop(3));
        SOME.shown("and then nothing", NULL, x -> x.sheet(3, LONGS, 0) + x.drop(3), x -> x.drop(3));
    }

    private static void promise44() {
        SOME.bad("sheet", (x, n) -> x.item(n, 0, 1, 9), -1, 4, LEAST, MOST);
        SOME.bad("lane", (x, n) -> x.item(0, n, 1, 9), -1, 3, LEAST, MOST);
        SOME.refused("BAD ahead of NULL", BAD, x -> x.item(3, 3, 0, 9));
        SOME.refused("BAD ahead of NULL", BAD, x -> x.item(3, -1, -1, 0));
        SOME.refused("BAD ahead of INDEX", BAD, x -> x.item(0, 3, 60, 0));
        SOME.refused("nothing", NULL, x -> x.item(3, 0, 0, 0));
        SOME.refused("NULL ahead of INDEX", NULL, x -> x.item(3, 2, -1, 0));
        SOME.refused("NULL ahead of INDEX", NULL, x -> x.item(2, 1, 60, 0));
        SOME.refused("ints for shorts", CAST, x -> x.item(0, INTS, 1, 9));
        SOME.refused("longs for shorts", CAST, x -> x.item(0, LONGS, 1, 9));
        SOME.refused("shorts for ints", CAST, x -> x.item(1, SHORTS, 1, 9));
        SOME.refused("longs for ints", CAST, x -> x.item(1, LONGS, 1, 9));
        SOME.refused("CAST ahead of INDEX", CAST, x -> x.item(0, INTS, -1, 0));
        SOME.refused("CAST ahead of INDEX", CAST, x -> x.item(0, LONGS, 6, 0));
        int[] wrong = {-1, 6, 7, 60, LEAST, MOST};
        for (int i : wrong) {
            SOME.refused("item " + i, INDEX, x -> x.item(0, SHORTS, i, 9));
        }
        SOME.taken("the first", 1, x -> x.item(0, SHORTS, 0, 7));
        SOME.taken("the last", 1, x -> x.item(0, SHORTS, 5, 7));
        SOME.taken("the last of 12", 1, x -> x.item(1, INTS, 11, LEAST));
        SOME.refused("behind the last of 12", INDEX, x -> x.item(1, INTS, 12, LEAST));
        LifeList x = new LifeList();
        Checks.due("60 longs", x.sheet(3, LONGS, 60), 60);
        Checks.due("shorts for longs", x.item(3, SHORTS, 0, 0), CAST);
        Checks.due("ints for longs", x.item(3, INTS, 0, 0), CAST);
        Checks.due("the last", x.item(3, LONGS, 59, MOST), 1);
        Checks.due("behind the last", x.item(3, LONGS, 60, MOST), INDEX);
        Checks.due("a row of no items", x.sheet(3, LONGS, 0), 0);
        Checks.due("has none", x.item(3, LONGS, 0, 0), INDEX);
    }

    /** 1850 with a bit above the lowest 16 is 1850 as a short, and no year as an int or a long. */
    private static void promise44LowestBits() {
        for (int lane = 0; lane < 3; lane++) {
            for (int bit = 16; bit < 32; bit++) {
                LifeList x = laid(lane, 6, 0, 3, 1850, 1860, 1870, 1880);
                lay(x, lane, 2, 1850 ^ 1 << bit);
                Checks.due("lane " + lane + ", bit " + bit, x.holdings(2, lane, 0, 1), lane == SHORTS ? 1 : NOT);
            }
            int[] below = {1850 ^ 1 << 15, 1850 ^ 1 << 14, -1850, -1, 32767, 32768, 65535, 65536, LEAST, MOST};
            for (int v : below) {
                LifeList x = laid(lane, 6, 0, 3, 1850, 1860, 1870, 1880);
                lay(x, lane, 2, v);
                Checks.due("lane " + lane + ", " + v, x.holdings(2, lane, 0, 1), NOT);
            }
            int[] zeros = {65536, -65536, LEAST, 0};
            for (int v : zeros) {
                LifeList x = laid(lane, 6, v, v, 1850, 1860, 1870, 1880);
                Checks.due("lane " + lane + ", work and owner " + v, x.holdings(2, lane, 0, 1),
                        lane == SHORTS || v == 0 ? 1 : NOT);
            }
        }
    }

    private static void promise45() {
        SOME.bad("sheet", (x, n) -> x.holdings(n, 0, 0, 1), -1, 4, LEAST, MOST);
        SOME.bad("lane", (x, n) -> x.holdings(0, n, 0, 1), -1, 3, LEAST, MOST);
        SOME.range("n", 0, 10, (x, n) -> x.holdings(0, 0, 0, n));
        SOME.taken("how many there are", 3, x -> x.holdings(0, SHORTS, 0, 1));
        SOME.asked("none come", 2, x -> x.holdings(0, SHORTS, 0, 0));
        SOME.shown("who may hold it", 1 << 7, x -> x.holdings(0, SHORTS, 0, 1), x -> x.may(0, 1850));
        SOME.shown("the latest goes by unhold", 2, x -> x.holdings(0, SHORTS, 0, 1), LifeList::unhold);
        SOME.shown("the sheet stays", 4, x -> x.holdings(0, SHORTS, 0, 1), x -> x.holdings(0, SHORTS, 0, 1));
        placesDue();
        for (int lane = 0; lane < 3; lane++) {
            LifeList x = laid(lane, 60);
            for (int i = 0; i < 10; i++) {
                lay(x, lane, 6 * i, 0, i, 1850 + 2 * i, 1850 + 2 * i, 1851 + 2 * i, 1851 + 2 * i);
            }
            Checks.due("ten", x.holdings(2, lane, 0, 10), 10);
            for (int i = 0; i < 10; i++) {
                Checks.due("in their order", x.owner(0, 1851 + 2 * i), i);
            }
            for (int i = 9; i >= 0; i--) {
                Checks.due("the latest goes", x.unhold(), i);
                Checks.due("the latest goes", x.owner(0, 1851 + 2 * i), NONE);
            }
        }
    }

    /** Work, owner, a, b, c, d, in this order, from an item on. */
    private static void placesDue() {
        for (int from = 0; from <= 6; from++) {
            LifeList x = laid(INTS, 12);
            Checks.painting(x);
            lay(x, INTS, from, 1, 3, 1850, 1860, 1870, 1880);
            Checks.due("one", x.holdings(2, INTS, from, 1), 1);
            int[][] may = {{1849, 0}, {1850, 8}, {1880, 8}, {1881, 0}};
            int[][] surely = {{1859, NONE}, {1860, 3}, {1870, 3}, {1871, NONE}};
            for (int i = 0; i < 4; i++) {
                Checks.due("may in " + may[i][0], x.may(1, may[i][0]), may[i][1]);
                Checks.due("owner in " + surely[i][0], x.owner(1, surely[i][0]), surely[i][1]);
            }
            Checks.due("not of the other work", x.may(0, 1860), 0);
        }
    }

    private static void promise45Order() {
        SOME.bad("BAD ahead of NULL, lane", (x, n) -> x.holdings(3, n, 0, 1), -1, 3);
        SOME.bad("BAD ahead of NULL, n", (x, n) -> x.holdings(3, 0, 0, n), -1, 11);
        SOME.bad("BAD ahead of CAST, n", (x, n) -> x.holdings(0, 1, 0, n), -1, 11);
        SOME.bad("BAD ahead of INDEX, n", (x, n) -> x.holdings(0, 0, -1, n), -1, 11);
        SOME.refused("nothing", NULL, x -> x.holdings(3, 0, 0, 1));
        SOME.refused("nothing, none to come", NULL, x -> x.holdings(3, 0, 0, 0));
        SOME.refused("NULL ahead of INDEX", NULL, x -> x.holdings(2, 1, -1, 1));
        SOME.refused("another lane", CAST, x -> x.holdings(0, INTS, 0, 1));
        SOME.refused("another lane", CAST, x -> x.holdings(0, LONGS, 0, 1));
        SOME.refused("another lane", CAST, x -> x.holdings(1, SHORTS, 0, 1));
        SOME.refused("another lane, none to come", CAST, x -> x.holdings(1, LONGS, 0, 0));
        SOME.refused("CAST ahead of INDEX", CAST, x -> x.holdings(0, INTS, 1, 1));
        SOME.refused("CAST ahead of NOT", CAST, x -> x.holdings(1, SHORTS, 6, 1));
        SOME.refused("INDEX ahead of NOT", INDEX, x -> x.holdings(1, INTS, 6, 2));
        SOME.refused("INDEX ahead of NOT, the second is beyond", INDEX, x -> x.holdings(1, INTS, 1, 2));
        SOME.refused("the second is not as told", NOT, x -> x.holdings(1, INTS, 0, 2));
        ALL.refused("a 61st", FULL, x -> x.holdings(0, SHORTS, 0, 1));
        ALL.refused("NOT ahead of FULL", NOT, x -> x.holdings(1, INTS, 0, 2));
        ALL.refused("INDEX ahead of FULL", INDEX, x -> x.holdings(0, SHORTS, 1, 1));
        ALL.refused("CAST ahead of FULL", CAST, x -> x.holdings(0, INTS, 0, 1));
        ALL.refused("NULL ahead of FULL", NULL, x -> x.holdings(3, INTS, 0, 1));
        ALL.refused("BAD ahead of FULL", BAD, x -> x.holdings(0, SHORTS, 0, 11));
        ALL.asked("none come, none is too many", 60, x -> x.holdings(0, SHORTS, 0, 0));
    }

    private static void promise45Index() {
        int[] wrong = {-1, -6, 1, 6, 7, LEAST, MOST, MOST - 5, LEAST + 6};
        for (int from : wrong) {
            SOME.refused("one of 6 items from " + from, INDEX, x -> x.holdings(0, SHORTS, from, 1));
        }
        for (int n = 1; n <= 10; n++) {
            int some = n;
            int[] ends = {60 - 6 * n, 61 - 6 * n};
            LifeList x = laid(INTS, 60);
            for (int i = 0; i < 10; i++) {
                lay(x, INTS, 6 * i, 0, i, 1850, 1850, 1850, 1850);
            }
            Checks.due("the last " + n, x.holdings(2, INTS, ends[0], n), n);
            Checks.due("from one on", x.holdings(2, INTS, ends[1], n), INDEX);
            Checks.due("from the end", x.holdings(2, INTS, 60, n), INDEX);
            Checks.due("from beyond", x.holdings(2, INTS, 61, n), INDEX);
            Checks.due("from ahead", x.holdings(2, INTS, -1, n), INDEX);
            Checks.due("none of these came", x.count(1), some);
            LifeList y = laid(INTS, 6 * n - 1);
            Checks.due("a row that is an item too short", y.holdings(2, INTS, 0, n), INDEX);
        }
        LifeList z = laid(LONGS, 0);
        Checks.due("none of no items", z.holdings(2, LONGS, 0, 0), 0);
        Checks.due("one of no items", z.holdings(2, LONGS, 0, 1), INDEX);
    }

    private static void promise45NotAsTold() {
        int[] well = {0, 3, 1850, 1860, 1870, 1880};
        int[][] wrong = {{0, -1}, {0, 1}, {1, -1}, {1, 20}, {2, 1799}, {2, 1861}, {2, 1871}, {3, 1849}, {3, 1881},
            {4, 1849}, {4, 1881}, {5, 1869}, {5, 1859}, {5, 2000}, {2, 0}, {5, 0}};
        int[][] right = {{1, 0}, {1, 19}, {2, 1800}, {2, 1860}, {3, 1850}, {3, 1880}, {4, 1850}, {4, 1880}, {5, 1870},
            {5, 1999}};
        for (int lane = 0; lane < 3; lane++) {
            for (int[] row : wrong) {
                LifeList x = laid(lane, 6, well);
                lay(x, lane, row[0], row[1]);
                Checks.due("item " + row[0] + " is " + row[1], x.holdings(2, lane, 0, 1), NOT);
                Checks.due("it did not come", x.count(1), 0);
            }
            for (int[] row : right) {
                LifeList x = laid(lane, 6, well);
                lay(x, lane, row[0], row[1]);
                Checks.due("item " + row[0] + " is " + row[1], x.holdings(2, lane, 0, 1), 1);
            }
        }
    }

    /** Of ten holdings each in turn is not as told; then none comes. */
    private static void promise45AllOrNone() {
        for (int wrong = 0; wrong < 10; wrong++) {
            LifeList x = laid(SHORTS, 60);
            for (int i = 0; i < 10; i++) {
                lay(x, SHORTS, 6 * i, 0, i == wrong ? 20 : i, 1850, 1850, 1850, 1850);
            }
            Checks.due("one is not as told", x.holdings(2, SHORTS, 0, 10), NOT);
            Checks.due("none came", x.count(1), 0);
            Checks.due("nobody holds it", x.may(0, 1850), 0);
            Checks.due("those ahead of it", x.holdings(2, SHORTS, 0, wrong), wrong);
            Checks.due("those behind it", x.holdings(2, SHORTS, 6 * wrong + 6, 9 - wrong), 9);
            Checks.due("all but that one", x.may(0, 1850), 1023 & ~(1 << wrong));
        }
    }

    private static void promise45Full() {
        for (int room = 0; room <= 10; room++) {
            LifeList x = laid(LONGS, 60);
            for (int i = 0; i < 60 - room; i++) {
                x.holding(0, 19, 1850, 1850, 1850, 1850);
            }
            for (int i = 0; i < 10; i++) {
                lay(x, LONGS, 6 * i, 0, i, 1900, 1900, 1900, 1900);
            }
            if (room < 10) {
                Checks.due("one too many", x.holdings(2, LONGS, 0, room + 1), FULL);
                Checks.due("ten are too many", x.holdings(2, LONGS, 0, 10), FULL);
            }
            Checks.due("none came", x.count(1), 60 - room);
            Checks.due("nobody holds it", x.may(0, 1900), 0);
            Checks.due("as many as there is room for", x.holdings(2, LONGS, 0, room), 60);
            Checks.due("they came", x.may(0, 1900), (1 << room) - 1);
        }
    }
}
