import java.util.Random;

/** Promises 16 to 23 at their edges: mentions, how they fit, how they are joined. */
public final class MentionsEdgesTest {
    private static final int BAD = LifeList.BAD, FULL = LifeList.FULL, NONE = LifeList.NONE;
    private static final int SALE = 0, LETTER = 1, SHOW = 2;
    private static final int MILLIMETRES = 0, INCHES = 1;
    private static final int ALL_WORDS = (1 << 30) - 1;
    private static final Edges SOME = States.SOME, ALL = States.ALL, NOTHING = States.NOTHING;

    public static void main(String[] args) {
        promise16();
        promise16Full();
        promise17();
        promise17Millimetres();
        promise17Inches();
        promise17FramesInMillimetres();
        promise17FramesInInches();
        promise17Shows();
        promise17Years();
        promise17YearsByClues();
        promise17Owners();
        promise17Struck();
        promise17Scores();
        promise17Then();
        promise18();
        promise19();
        promise19FirstEight();
        promise19OfLikeOnes();
        promise20();
        promise21();
        promise22();
        promise23();
        promise23CutDown();
        votesKnownLast();
        Checks.end();
    }

    private static LifeList works(int... titles) {
        LifeList x = new LifeList();
        for (int title : titles) {
            x.work(0, 300, 200, title, 1850, 1900);
        }
        return x;
    }

    private static int worded(LifeList x, int kind, int event, int words) {
        return x.mention(kind, event, 1950, 0, 0, 0, false, words, -1);
    }

    private static void promise16() {
        SOME.range("kind", 0, 2, (x, n) -> x.mention(n, 0, 1900, 0, 0, 0, false, 1, -1));
        SOME.range("event", 0, 15, (x, n) -> x.mention(0, n, 1900, 0, 0, 0, false, 1, -1));
        SOME.range("year", 1800, 1999, (x, n) -> x.mention(0, 0, n, 0, 0, 0, false, 1, -1));
        SOME.range("height", 1, 6000, (x, n) -> x.mention(0, 0, 1900, n, 1, 0, false, 1, -1));
        SOME.range("width", 1, 6000, (x, n) -> x.mention(0, 0, 1900, 6000, n, 1, true, 1, -1));
        SOME.range("unit", 0, 1, (x, n) -> x.mention(0, 0, 1900, 1, 1, n, false, 1, -1));
        SOME.range("unit of sizes that are not told", 0, 1, (x, n) -> x.mention(0, 0, 1900, 0, 0, n, false, 1, -1));
        SOME.bits("words", 30, (x, n) -> x.mention(0, 0, 1900, 0, 0, 0, false, n, -1));
        SOME.range("owner", -1, 19, (x, n) -> x.mention(0, 0, 1900, 0, 0, 0, false, 1, n));
        SOME.taken("no words", 5, x -> x.mention(0, 0, 1900, 0, 0, 0, false, 0, -1));
        SOME.taken("the least of all", 5, x -> x.mention(0, 0, 1800, 1, 1, 0, false, 0, -1));
        SOME.taken("the most of all", 5, x -> x.mention(2, 15, 1999, 6000, 6000, 1, true, ALL_WORDS, 19));
        SOME.refused("the height alone", BAD, x -> x.mention(0, 0, 1900, 1, 0, 0, false, 1, -1));
        SOME.refused("the width alone", BAD, x -> x.mention(0, 0, 1900, 0, 1, 0, false, 1, -1));
        SOME.refused("the height below 0", BAD, x -> x.mention(0, 0, 1900, -1, 0, 0, false, 1, -1));
        SOME.refused("the width below 0", BAD, x -> x.mention(0, 0, 1900, 0, -1, 0, false, 1, -1));
        SOME.refused("both below 0", BAD, x -> x.mention(0, 0, 1900, -1, -1, 0, false, 1, -1));
        NOTHING.taken("without works", 0, x -> x.mention(0, 0, 1900, 0, 0, 0, false, 1, -1));
    }

    private static void promise16Full() {
        ALL.refused("a 51st", FULL, x -> x.mention(0, 15, 1900, 0, 0, 0, false, 1, -1));
        ALL.bad("BAD ahead of FULL, kind", (x, n) -> x.mention(n, 0, 1900, 0, 0, 0, false, 1, -1), -1, 3);
        ALL.bad("BAD ahead of FULL, event", (x, n) -> x.mention(0, n, 1900, 0, 0, 0, false, 1, -1), -1, 16);
        ALL.bad("BAD ahead of FULL, year", (x, n) -> x.mention(0, 0, n, 0, 0, 0, false, 1, -1), 1799, 2000);
        ALL.bad("BAD ahead of FULL, height", (x, n) -> x.mention(0, 0, 1900, n, 1, 0, false, 1, -1), -1, 0, 6001);
        ALL.bad("BAD ahead of FULL, width", (x, n) -> x.mention(0, 0, 1900, 1, n, 0, false, 1, -1), -1, 0, 6001);
        ALL.bad("BAD ahead of FULL, unit", (x, n) -> x.mention(0, 0, 1900, 0, 0, n, false, 1, -1), -1, 2);
        ALL.bad("BAD ahead of FULL, words", (x, n) -> x.mention(0, 0, 1900, 0, 0, 0, false, n, -1), -1, 1 << 30);
        ALL.bad("BAD ahead of FULL, owner", (x, n) -> x.mention(0, 0, 1900, 0, 0, 0, false, 1, n), -2, 20);
        LifeList x = new LifeList();
        for (int i = 0; i < 50; i++) {
            Checks.due("numbered as they come", x.mention(i % 3, i % 16, 1900, 0, 0, 0, false, 1, -1), i);
        }
        Checks.due("a 51st", x.mention(0, 0, 1900, 0, 0, 0, false, 1, -1), FULL);
        Checks.due("50", x.count(2), 50);
    }

    private static void promise17() {
        SOME.range("mention", 0, 4, (x, n) -> x.score(n, 0));
        SOME.range("work", 0, 3, (x, n) -> x.score(0, n));
        ALL.range("mention", 0, 49, (x, n) -> x.score(n, 0));
        ALL.range("work", 0, 39, (x, n) -> x.score(0, n));
        NOTHING.refused("neither", BAD, x -> x.score(0, 0));
        SOME.asked("sizes, two words, the owner", 16, x -> x.score(0, 0));
        SOME.asked("a struck work", 0, x -> x.score(1, 1));
        SOME.asked("no word in common", 0, x -> x.score(4, 0));
    }

    /** The score of a mention with one word in common, told sizes and none else: 7 if it fits. */
    private static int sized(int kind, int height, int width, int unit, boolean isFramed, int... told) {
        LifeList x = new LifeList();
        x.work(0, height, width, 1, 1850, 1900);
        return x.score(x.mention(kind, 0, 1950, told[0], told[1], unit, isFramed, 1, -1), 0);
    }

    private static void promise17Millimetres() {
        for (int height = 293; height <= 307; height++) {
            for (int width = 193; width <= 207; width++) {
                boolean isNear = height >= 295 && height <= 305 && width >= 195 && width <= 205;
                Checks.due("millimetres " + height + " " + width,
                        sized(SALE, 300, 200, MILLIMETRES, false, height, width), isNear ? 7 : 0);
            }
        }
        Checks.due("the least size", sized(LETTER, 10, 10, MILLIMETRES, false, 5, 15), 7);
        Checks.due("below it", sized(LETTER, 10, 10, MILLIMETRES, false, 4, 15), 0);
        Checks.due("the greatest size", sized(LETTER, 5000, 5000, MILLIMETRES, false, 5005, 4995), 7);
        Checks.due("above it", sized(LETTER, 5000, 5000, MILLIMETRES, false, 5006, 4995), 0);
    }

    private static void promise17Inches() {
        // In tenths: 10 inches stand for 2413 to 2667, 1 for 127 to 381, 2 for 381 to 635, 3 for 635 to 889,
        // 197 for 49911 to 50165.
        int[][] due = {{10, 241, 0}, {10, 242, 7}, {10, 266, 7}, {10, 267, 0}, {11, 266, 0}, {11, 267, 7},
            {1, 12, 0}, {1, 13, 7}, {1, 38, 7}, {1, 39, 0}, {2, 38, 0}, {2, 39, 7}, {3, 88, 7}, {3, 89, 0}, {197, 4991, 0}, {197, 4992, 7}, {197, 5000, 7},
            {196, 4991, 7}, {196, 4992, 0}, {6000, 5000, 0}};
        for (int[] row : due) {
            Checks.due("inches " + row[0] + " of " + row[1],
                    sized(SALE, row[1], row[1], INCHES, false, row[0], row[0]), row[2]);
            Checks.due("the height in inches", sized(SALE, row[1], 254, INCHES, false, row[0], 10), row[2]);
            Checks.due("the width in inches", sized(SALE, 254, row[1], INCHES, false, 10, row[0]), row[2]);
        }
    }

    /** Whether some whole frame makes both sides fit, by trying them all, in tenths of a millimetre. */
    private static boolean isFramedFit(int height, int width, int toldHeight, int toldWidth, int unit, int half) {
        for (int f = 20; f <= 120; f++) {
            int up = Math.abs(toldHeight * unit - 10 * (height + 2 * f));
            int across = Math.abs(toldWidth * unit - 10 * (width + 2 * f));
            if (up <= half && across <= half) {
                return true;
            }
        }
        return false;
    }

    private static void promise17FramesInMillimetres() {
        // More than the work is, both sides: the thinnest frame is 40 more, the thickest 240, 5 either way.
        int[][] due = {{35, 35, 7}, {34, 35, 0}, {35, 34, 0}, {34, 34, 0}, {245, 245, 7}, {246, 245, 0},
            {245, 246, 0}, {0, 0, 0}, {40, 40, 7}, {240, 240, 7}, {35, 45, 7}, {45, 35, 7}, {36, 46, 0}, {46, 36, 0},
            {37, 47, 7}, {37, 48, 0}, {36, 45, 7}, {235, 245, 7}, {234, 244, 0}, {-40, -40, 0}};
        for (int[] row : due) {
            Checks.due("framed, " + row[0] + " " + row[1] + " more",
                    sized(SALE, 300, 200, MILLIMETRES, true, 300 + row[0], 200 + row[1]), row[2]);
        }
        for (int height = 30; height <= 60; height++) {
            for (int width = 30; width <= 60; width++) {
                int[] told = {300 + height, 200 + width};
                Checks.due("framed, " + height + " " + width + " more", sized(SALE, 300, 200, MILLIMETRES, true, told),
                        isFramedFit(300, 200, told[0], told[1], 10, 50) ? 7 : 0);
            }
        }
    }

    private static void promise17FramesInInches() {
        for (int height = 250; height <= 500; height++) {
            for (int more = 0; more <= 30; more += 3) {
                int due = isFramedFit(height, height - more, 20, 20, 254, 127) ? 7 : 0;
                int got = sized(SALE, height, height - more, INCHES, true, 20, 20);
                Checks.due("20 inches framed, " + height + " " + (height - more), got, due);
            }
        }
        // 20 inches end at 5207 tenths and begin at 4953: less 40 millimetres, less 240.
        Checks.due("the thinnest", sized(SALE, 480, 480, INCHES, true, 20, 20), 7);
        Checks.due("too thin", sized(SALE, 481, 481, INCHES, true, 20, 20), 0);
        Checks.due("the thickest", sized(SALE, 256, 256, INCHES, true, 20, 20), 7);
        Checks.due("too thick", sized(SALE, 255, 255, INCHES, true, 20, 20), 0);
        // Sides that but just fit, or but just do not, with one frame.
        Random random = new Random(7);
        for (int i = 0; i < 20000; i++) {
            int[] told = {30 + random.nextInt(40), 30 + random.nextInt(40)};
            int frame = 18 + random.nextInt(105);
            int height = told[0] * 254 / 10 - 2 * frame - 12 + random.nextInt(2);
            int width = told[1] * 254 / 10 - 2 * frame + 11 + random.nextInt(3);
            int due = isFramedFit(height, width, told[0], told[1], 254, 127) ? 7 : 0;
            Checks.due("framed " + told[0] + " " + told[1] + " of " + height + " " + width,
                    sized(SALE, height, width, INCHES, true, told), due);
        }
    }

    private static void promise17Shows() {
        int[] kinds = {SALE, LETTER, SHOW};
        for (int kind : kinds) {
            int exchanged = kind == SHOW ? 7 : 0;
            Checks.due("as it is", sized(kind, 300, 200, MILLIMETRES, false, 305, 195), 7);
            Checks.due("exchanged", sized(kind, 300, 200, MILLIMETRES, false, 195, 305), exchanged);
            Checks.due("exchanged, too much", sized(kind, 300, 200, MILLIMETRES, false, 195, 306), 0);
            Checks.due("exchanged, too little", sized(kind, 300, 200, MILLIMETRES, false, 194, 305), 0);
            Checks.due("twice the height", sized(kind, 300, 200, MILLIMETRES, false, 300, 300), 0);
            Checks.due("twice the width", sized(kind, 300, 200, MILLIMETRES, false, 200, 200), 0);
            Checks.due("framed, exchanged", sized(kind, 300, 200, MILLIMETRES, true, 235, 335), exchanged);
            Checks.due("framed, exchanged, too thin", sized(kind, 300, 200, MILLIMETRES, true, 234, 335), 0);
            Checks.due("inches, exchanged", sized(kind, 300, 200, INCHES, false, 8, 12), exchanged);
        }
    }

    private static void promise17Years() {
        int[][] due = {{1849, 0}, {1850, 4}, {1851, 4}, {1900, 4}, {1901, 4}, {1999, 4}, {1800, 0}};
        for (int[] row : due) {
            LifeList x = works(1);
            Checks.due("year " + row[0], x.score(x.mention(SALE, 0, row[0], 0, 0, 0, false, 1, -1), 0), row[1]);
        }
        LifeList y = new LifeList();
        y.work(0, 300, 200, 1, 1800, 1800);
        y.work(0, 300, 200, 1, 1999, 1999);
        Checks.due("the first year", y.score(y.mention(SALE, 0, 1800, 0, 0, 0, false, 1, -1), 0), 4);
        Checks.due("ahead of the last year", y.score(y.mention(SALE, 0, 1998, 0, 0, 0, false, 1, -1), 1), 0);
        Checks.due("the last year", y.score(y.mention(SALE, 0, 1999, 0, 0, 0, false, 1, -1), 1), 4);
    }

    private static void promise17YearsByClues() {
        LifeList x = works(1, 1);
        int[] scores = new int[3];
        int[] years = {1850, 1859, 1860};
        for (int i = 0; i < 3; i++) {
            scores[i] = x.mention(SALE, 0, years[i], 0, 0, 0, false, 1, -1);
        }
        x.clue(0, 1, 10);
        int[][] due = {{4, 0}, {4, 0}, {4, 4}};
        for (int i = 0; i < 3; i++) {
            Checks.due("the clue's first work", x.score(scores[i], 0), due[i][0]);
            Checks.due("low by the clue", x.score(scores[i], 1), due[i][1]);
        }
        x.use(0, false);
        Checks.due("the clue is not in use", x.score(scores[0], 1), 4);
        x.use(0, true);
        Checks.due("it is again", x.score(scores[0], 1), 0);
        x.clue(1, 0, -9);
        Checks.due("they quarrel: low as told", x.score(scores[0], 1), 4);
        Checks.due("they quarrel", x.quarrel(), 1);
        int early = x.mention(SALE, 0, 1849, 0, 0, 0, false, 1, -1);
        Checks.due("they quarrel: ahead of low as told", x.score(early, 1), 0);
        x.vote(0, 0, 7, 0, true);
        Checks.due("the clues of a struck work", x.score(scores[0], 1), 4);
    }

    private static void promise17Owners() {
        LifeList x = works(1);
        int[] told = new int[3];
        for (int owner = -1; owner < 2; owner++) {
            told[owner + 1] = x.mention(SALE, 0, 1950, 0, 0, 0, false, 1, owner);
        }
        int[][] due = {{4, 4, 4}, {4, 9, 0}, {4, 4, 4}, {4, 0, 9}};
        int[] holders = {-1, 0, 1, -1};
        for (int step = 0; step < 4; step++) {
            if (step == 3) {
                x.unhold();
                x.unhold();
                x.holding(0, 1, 1950, 1950, 1950, 1950);
            } else if (holders[step] >= 0) {
                x.holding(0, holders[step], 1950, 1950, 1950, 1950);
            }
            for (int i = 0; i < 3; i++) {
                Checks.due("step " + step + ", owner told " + (i - 1), x.score(told[i], 0), due[step][i]);
            }
        }
        x.unhold();
        x.holding(0, 1, 1949, 1951, 1951, 1951);
        Checks.due("one who only may, told", x.score(told[2], 0), 4);
        Checks.due("one who only may, another told", x.score(told[1], 0), 4);
        x.unhold();
        x.holding(0, 19, 1900, 1900, 1949, 1950);
        Checks.due("a year behind", x.score(told[1], 0), 4);
        int last = x.mention(SALE, 0, 1949, 0, 0, 0, false, 1, 19);
        Checks.due("owner 19, in the last year", x.score(last, 0), 9);
        int other = x.mention(SALE, 0, 1949, 0, 0, 0, false, 1, 18);
        Checks.due("another, in the last year", x.score(other, 0), 0);
    }

    private static void promise17Struck() {
        LifeList x = works(1);
        int m = worded(x, SALE, 0, 1);
        Checks.due("doubtful", x.score(m, 0), 4);
        x.vote(0, 5000, 7, 0, false);
        Checks.due("in", x.score(m, 0), 4);
        x.vote(0, 4999, 7, 0, true);
        Checks.due("struck on a day ahead", x.score(m, 0), 4);
        x.vote(0, 5000, 1, 6, true);
        Checks.due("a vote that did not pass", x.score(m, 0), 4);
        x.vote(0, 5000, 7, 0, true);
        Checks.due("struck on that day, later", x.score(m, 0), 0);
        x.vote(0, 9999, 7, 0, false);
        Checks.due("in on the last day", x.score(m, 0), 4);
    }

    private static void promise17Scores() {
        LifeList x = works(ALL_WORDS);
        x.holding(0, 5, 1950, 1950, 1950, 1950);
        int[][] due = {{0, 0, -1, 0}, {1, 0, -1, 4}, {3, 0, -1, 8}, {ALL_WORDS, 0, -1, 120}, {0, 1, -1, 0}, {1, 1, -1, 7},
            {0, 0, 5, 5}, {0, 1, 5, 8}, {1, 0, 5, 9}, {1, 1, 5, 12}, {ALL_WORDS, 1, 5, 128}, {ALL_WORDS, 1, 4, 0},
            {1 << 29, 0, -1, 4}};
        for (int[] row : due) {
            int m = x.mention(SALE, 0, 1950, 300 * row[1], 200 * row[1], 0, false, row[0], row[2]);
            Checks.due("words " + row[0] + ", sizes " + row[1] + ", owner " + row[2], x.score(m, 0), row[3]);
        }
    }

    private static void promise17Then() {
        LifeList x = new LifeList();
        x.work(2, 300, 200, 1, 1850, 1900);
        x.retitle(0, 1920, 2);
        x.cut(0, 1930, 290, 190);
        int[][] due = {{1919, 1, 300, 200, 7}, {1919, 2, 300, 200, 0}, {1920, 1, 300, 200, 0}, {1920, 2, 300, 200, 7},
            {1929, 2, 300, 200, 7}, {1929, 2, 290, 190, 0}, {1930, 2, 300, 200, 0}, {1930, 2, 290, 190, 7}};
        for (int[] row : due) {
            int m = x.mention(SALE, 0, row[0], row[2], row[3], 0, false, row[1], -1);
            Checks.due("in " + row[0] + " words " + row[1] + " height " + row[2], x.score(m, 0), row[4]);
        }
    }

    private static void promise18() {
        SOME.range("rivals", 0, 4, (x, n) -> x.rivals(n));
        ALL.range("rivals", 0, 49, (x, n) -> x.rivals(n));
        SOME.asked("one that fits one", 1, x -> x.rivals(0));
        SOME.asked("one that fits none", 0, x -> x.rivals(4));
        LifeList x = new LifeList();
        Checks.due("a mention", worded(x, SALE, 0, 1), 0);
        Checks.due("no works", x.rivals(0), 0);
        for (int i = 1; i <= 40; i++) {
            Checks.painting(x);
            Checks.due("works " + i, x.rivals(0), i);
        }
        for (int i = 1; i <= 10; i++) {
            worded(x, SALE, 0, 1);
        }
        Checks.due("the eleventh of an event fits as well", x.rivals(10), 40);
    }

    private static void promise19() {
        SOME.range("joined", 0, 4, (x, n) -> x.joined(n));
        ALL.range("joined", 0, 49, (x, n) -> x.joined(n));
        SOME.asked("to work 0", 0, x -> x.joined(0));
        SOME.refused("it fits none", NONE, x -> x.joined(4));
        SOME.refused("its work is another's", NONE, x -> x.joined(1));
        LifeList x = works(1, 3);
        worded(x, SALE, 0, 3);
        worded(x, SALE, 0, 3);
        Checks.due("12 either way: the lesser work first", x.joined(0), 0);
        Checks.due("12 either way", x.joined(1), 1);
        worded(x, SALE, 0, 1);
        Checks.due("no work twice", x.joined(2), NONE);
        LifeList y = works(7, 3);
        worded(y, SALE, 0, 7);
        worded(y, SALE, 0, 4);
        Checks.due("all together most: 12 alone", y.sum(0), 12);
        Checks.due("all together most: the first's own best", y.joined(0), 0);
        LifeList z = works(7, 3);
        worded(z, SALE, 0, 7);
        worded(z, SALE, 0, 12);
        worded(z, SALE, 0, 4 | 8);
        z.retitle(0, 1940, 7 | 8);
        Checks.due("all together most: 8 and 8, not 12", z.sum(0), 16);
        Checks.due("the first gives way", z.joined(0), 1);
        Checks.due("to the second", z.joined(1), 0);
        Checks.due("the third is like the second", z.joined(2), NONE);
    }

    private static void promise19FirstEight() {
        LifeList x = works(1, 1, 1, 1, 1, 1, 1, 1, 1, 1);
        for (int i = 0; i < 20; i++) {
            worded(x, SALE, i % 2 * 15, 1);
        }
        for (int i = 0; i < 20; i++) {
            Checks.due("joined " + i, x.joined(i), i < 16 ? i / 2 : NONE);
            Checks.due("sure " + i, x.sure(i), i < 16 ? 0 : NONE);
        }
        // The first eight fit nothing: they still are the first eight.
        LifeList y = works(1);
        for (int i = 0; i < 7; i++) {
            worded(y, SALE, 3, 2);
        }
        worded(y, SALE, 3, 1);
        worded(y, SALE, 3, 1);
        Checks.due("the eighth", y.joined(7), 0);
        Checks.due("the ninth", y.joined(8), NONE);
        y.vote(0, 0, 7, 0, true);
        Checks.due("struck", y.joined(7), NONE);
    }

    private static void promise19OfLikeOnes() {
        LifeList x = works(1, 1, 1);
        worded(x, SALE, 0, 1);
        worded(x, SALE, 0, 1);
        Checks.due("the lesser work first", x.joined(0), 0);
        Checks.due("then the next", x.joined(1), 1);
        LifeList y = works(3, 1);
        y.retitle(0, 1940, 1 | 2);
        worded(y, SALE, 0, 1);
        worded(y, SALE, 0, 2);
        Checks.due("the first makes room", y.joined(0), 1);
        Checks.due("for the second", y.joined(1), 0);
        LifeList z = works(1);
        for (int i = 0; i < 8; i++) {
            worded(z, SALE, 0, 1);
        }
        for (int i = 0; i < 8; i++) {
            Checks.due("none behind all " + i, z.joined(i), i == 0 ? 0 : NONE);
        }
        // Like sums: the first to 0, or the second and third to 0 and 1 with the first to none.
        LifeList w = works(3, 2);
        worded(w, SALE, 0, 3);
        worded(w, SALE, 0, 1);
        worded(w, SALE, 0, 2);
        Checks.due("first to the lesser work", w.joined(0), 0);
        Checks.due("none", w.joined(1), NONE);
        Checks.due("the third to what is left", w.joined(2), 1);
        Checks.due("12", w.sum(0), 12);
        LifeList v = works(2, 1 | 4);
        worded(v, SALE, 0, 2 | 1);
        worded(v, SALE, 0, 2);
        worded(v, SALE, 0, 1);
        Checks.due("the lesser work ahead of the other", v.joined(0), 0);
        Checks.due("none for the second", v.joined(1), NONE);
        Checks.due("the third", v.joined(2), 1);
    }

    private static void promise20() {
        SOME.range("sure", 0, 4, (x, n) -> x.sure(n));
        ALL.range("sure", 0, 49, (x, n) -> x.sure(n));
        SOME.asked("sure", 1, x -> x.sure(0));
        SOME.refused("joined to none", NONE, x -> x.sure(1));
        SOME.refused("fits none", NONE, x -> x.sure(4));
        LifeList x = works(1);
        worded(x, SALE, 0, 1);
        Checks.due("the only one for the only one", x.sure(0), 1);
        x.work(0, 300, 200, 1, 1850, 1900);
        Checks.due("another would do as well", x.sure(0), 0);
        worded(x, SALE, 0, 1);
        Checks.due("they could change places", x.sure(0), 0);
        Checks.due("they could change places", x.sure(1), 0);
        LifeList y = works(1, 3);
        worded(y, SALE, 0, 3);
        Checks.due("another would do less well", y.sure(0), 1);
        worded(y, SALE, 0, 1);
        Checks.due("both are", y.sure(0), 1);
        Checks.due("both are", y.sure(1), 1);
        worded(y, SALE, 0, 1);
        Checks.due("another mention would do as well", y.sure(1), 0);
        Checks.due("it is joined to none", y.sure(2), NONE);
        worded(y, LETTER, 1, 3);
        Checks.due("of another event", y.sure(3), 1);
    }

    private static void promise21() {
        SOME.range("sum", 0, 15, (x, n) -> x.sum(n));
        NOTHING.range("sum", 0, 15, (x, n) -> x.sum(n));
        SOME.asked("of no mentions", 0, x -> x.sum(0));
        SOME.asked("16 and 7", 23, x -> x.sum(1));
        LifeList x = works(1, 1, 1, 1, 1, 1, 1, 1, 1);
        for (int i = 1; i <= 9; i++) {
            worded(x, SALE, 15, 1);
            Checks.due("mentions " + i, x.sum(15), 4 * Math.min(i, 8));
        }
        Checks.due("of another event", x.sum(14), 0);
        LifeList y = works(ALL_WORDS, ALL_WORDS, ALL_WORDS, ALL_WORDS, ALL_WORDS, ALL_WORDS, ALL_WORDS, ALL_WORDS);
        for (int i = 0; i < 8; i++) {
            y.holding(i, 3, 1950, 1950, 1950, 1950);
            y.mention(SALE, 0, 1950, 300, 200, 0, false, ALL_WORDS, 3);
        }
        Checks.due("the most of all", y.sum(0), 8 * 128);
    }

    private static void promise22() {
        SOME.range("mentions", 0, 2, (x, n) -> x.mentions(n));
        NOTHING.range("mentions", 0, 2, (x, n) -> x.mentions(n));
        NOTHING.shown("the first is lost", 1, x -> worded(x, SALE, 0, 1), x -> x.mentions(0));
        LifeList x = works(1, 2);
        int[][] words = {{1, 0, 1, 1}, {1, 0, 1, 0}, {2, 0, 2, 1}, {4, 1, 2, 1}};
        for (int[] row : words) {
            worded(x, SALE, 0, row[0]);
            for (int what = 0; what < 3; what++) {
                Checks.due("lost, joined, sure: " + what, x.mentions(what), row[1 + what]);
            }
        }
        LifeList z = works(1, 2, 2);
        worded(z, SALE, 0, 1);
        worded(z, SALE, 0, 2);
        Checks.due("the first is sure, the second is not", z.mentions(2), 1);
        LifeList y = works(1, 1, 1, 1, 1, 1, 1, 1, 2);
        for (int i = 0; i < 8; i++) {
            worded(y, SALE, 15, 1);
        }
        worded(y, SALE, 15, 2);
        worded(y, SALE, 15, 4);
        Checks.due("the ninth is not lost, the tenth is", y.mentions(0), 1);
        Checks.due("nor is either joined", y.mentions(1), 8);
        Checks.due("they could all change places", y.mentions(2), 0);
        worded(y, SALE, 0, 2);
        Checks.due("the first event", y.mentions(1), 9);
        Checks.due("the first event", y.mentions(2), 1);
    }

    private static void promise23() {
        SOME.range("what", 0, 4, (x, n) -> x.counted(0, 1, n));
        SOME.bad("the one", (x, n) -> x.counted(n, 1, 0), -1, 3, Integer.MIN_VALUE, Integer.MAX_VALUE);
        SOME.bad("the other", (x, n) -> x.counted(0, n, 0), -1, 3, Integer.MIN_VALUE, Integer.MAX_VALUE);
        for (int i = 0; i < 3; i++) {
            int kind = i;
            for (int j = 0; j < 5; j++) {
                int what = j;
                SOME.refused("like kinds " + i + ", what " + j, BAD, x -> x.counted(kind, kind, what));
            }
        }
        for (int i = 0; i < 3; i++) {
            int[] kinds = {i, (i + 1) % 3};
            NOTHING.asked("any two kinds", 0, x -> x.counted(kinds[0], kinds[1], 0));
            NOTHING.asked("the other way", 0, x -> x.counted(kinds[1], kinds[0], 0));
        }
        NOTHING.shown("a lost mention", 0, x -> worded(x, SALE, 0, 1), x -> x.counted(SALE, SHOW, 0));
        NOTHING.shown("a lost mention", 0, x -> worded(x, SALE, 0, 1), x -> x.counted(SHOW, SALE, 4));
        NOTHING.refused("BAD ahead of NONE, like kinds", BAD, x -> x.counted(2, 2, 3));
        NOTHING.refused("BAD ahead of NONE, a kind", BAD, x -> x.counted(0, 3, 3));
        NOTHING.refused("none of both", NONE, x -> x.counted(0, 2, 3));
        LifeList x = works(1, 2, 4);
        worded(x, LETTER, 0, 1);
        worded(x, LETTER, 1, 1);
        countedDue(x, "one work twice", LETTER, SHOW, 1, 0, 0, NONE, 1);
        countedDue(x, "the other way", SHOW, LETTER, 0, 1, 0, NONE, 1);
        countedDue(x, "of neither", SALE, SHOW, 0, 0, 0, NONE, 0);
        worded(x, SHOW, 2, 2);
        countedDue(x, "two works", LETTER, SHOW, 1, 1, 0, NONE, 2);
        worded(x, SHOW, 0, 4);
        countedDue(x, "one event, two kinds", LETTER, SHOW, 1, 2, 0, NONE, 3);
        worded(x, SHOW, 3, 1);
        countedDue(x, "of both", LETTER, SHOW, 1, 3, 1, 3, 3);
        worded(x, SALE, 0, 1);
        countedDue(x, "not sure there, but elsewhere", LETTER, SHOW, 1, 3, 1, 3, 3);
        worded(x, SALE, 1, 1);
        countedDue(x, "not sure", LETTER, SHOW, 0, 3, 0, NONE, 3);
    }

    private static void countedDue(LifeList x, String what, int one, int other, int... due) {
        for (int i = 0; i < due.length; i++) {
            Checks.due(what + ", " + i, x.counted(one, other, i), due[i]);
        }
    }

    /** Struck as of all votes known: the vote just ahead counts, in whichever call comes first. */
    private static void votesKnownLast() {
        Edges.Call strike = x -> x.vote(0, 9999, 14, 0, true);
        SOME.shown("score", 0, strike, x -> x.score(0, 0));
        SOME.shown("rivals", 0, strike, x -> x.rivals(0));
        SOME.shown("joined", NONE, strike, x -> x.joined(0));
        SOME.shown("sure", NONE, strike, x -> x.sure(0));
        SOME.shown("sum", 7, strike, x -> x.sum(1));
        SOME.shown("lost", 4, strike, x -> x.mentions(0));
        SOME.shown("joined ones", 1, strike, x -> x.mentions(1));
        SOME.shown("sure ones", 1, strike, x -> x.mentions(2));
        SOME.shown("counted", 0, strike, x -> x.counted(SALE, SHOW, 0));
    }

    private static void promise23CutDown() {
        LifeList x = new LifeList();
        for (int i = 0; i < 10; i++) {
            x.work(0, 300, 200, 1 << i, 1850, 1900);
        }
        for (int i = 0; i < 5; i++) {
            worded(x, SALE, 0, 1 << i);
        }
        for (int i = 2; i < 7; i++) {
            worded(x, LETTER, 1, 1 << i);
        }
        countedDue(x, "25 by 3", SALE, LETTER, 5, 5, 3, 8, 7);
        worded(x, LETTER, 1, 1 << 7);
        countedDue(x, "30 by 3", SALE, LETTER, 5, 6, 3, 10, 8);
        worded(x, SALE, 2, 1 << 7);
        countedDue(x, "36 by 4", SALE, LETTER, 6, 6, 4, 9, 8);
        worded(x, SALE, 2, 1 << 8);
        countedDue(x, "42 by 4", SALE, LETTER, 7, 6, 4, 10, 9);
    }
}
