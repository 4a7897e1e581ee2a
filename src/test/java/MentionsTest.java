/** Promises 16 to 23: mentions, how they fit, and how they are joined. */
public final class MentionsTest {
    private static final int SALE = 0, LETTER = 1, SHOW = 2;
    private static final int MILLIMETRES = 0, INCHES = 1;

    public static void main(String[] args) {
        wrongMentions();
        edgesInMillimetres();
        edgesInInches();
        frames();
        exchanged();
        sizesOfTheYear();
        yearsAndStates();
        words();
        ownersTold();
        seenAtOnce();
        rivalsAndLost();
        joinedFirst();
        sureOnes();
        eightOfAnEvent();
        manyWorks();
        counted();
        fullOfMentions();
        Checks.end();
    }

    private static int sized(LifeList x, int kind, int height, int width, int unit, boolean isFramed) {
        return x.mention(kind, 0, 1950, height, width, unit, isFramed, 1, -1);
    }

    private static int worded(LifeList x, int kind, int event, int words) {
        return x.mention(kind, event, 1950, 0, 0, 0, false, words, -1);
    }

    private static void wrongMentions() {
        LifeList x = new LifeList();
        int bad = LifeList.BAD;
        Checks.due("kind -1", x.mention(-1, 0, 1900, 0, 0, 0, false, 0, -1), bad);
        Checks.due("kind 3", x.mention(3, 0, 1900, 0, 0, 0, false, 0, -1), bad);
        Checks.due("event -1", x.mention(0, -1, 1900, 0, 0, 0, false, 0, -1), bad);
        Checks.due("event 16", x.mention(0, 16, 1900, 0, 0, 0, false, 0, -1), bad);
        Checks.due("year 1799", x.mention(0, 0, 1799, 0, 0, 0, false, 0, -1), bad);
        Checks.due("year 2000", x.mention(0, 0, 2000, 0, 0, 0, false, 0, -1), bad);
        Checks.due("no width", x.mention(0, 0, 1900, 1, 0, 0, false, 0, -1), bad);
        Checks.due("no height", x.mention(0, 0, 1900, 0, 1, 0, false, 0, -1), bad);
        Checks.due("height -1", x.mention(0, 0, 1900, -1, 1, 0, false, 0, -1), bad);
        Checks.due("width 6001", x.mention(0, 0, 1900, 1, 6001, 0, false, 0, -1), bad);
        Checks.due("height 6001", x.mention(0, 0, 1900, 6001, 1, 0, false, 0, -1), bad);
        Checks.due("unit -1", x.mention(0, 0, 1900, 0, 0, -1, false, 0, -1), bad);
        Checks.due("unit 2", x.mention(0, 0, 1900, 0, 0, 2, false, 0, -1), bad);
        Checks.due("word 30", x.mention(0, 0, 1900, 0, 0, 0, false, 1 << 30, -1), bad);
        Checks.due("words -1", x.mention(0, 0, 1900, 0, 0, 0, false, -1, -1), bad);
        Checks.due("owner -2", x.mention(0, 0, 1900, 0, 0, 0, false, 0, -2), bad);
        Checks.due("owner 20", x.mention(0, 0, 1900, 0, 0, 0, false, 0, 20), bad);
        Checks.due("none came", x.count(2), 0);
        Checks.due("least", x.mention(0, 0, 1800, 1, 1, 0, false, 0, -1), 0);
        Checks.due("greatest", x.mention(2, 15, 1999, 6000, 6000, 1, true, (1 << 30) - 1, 19), 1);
        Checks.due("score of no mention", x.score(2, 0), bad);
        Checks.due("score for no work", x.score(0, 0), bad);
        Checks.due("rivals of none", x.rivals(2), bad);
        Checks.due("joined -1", x.joined(-1), bad);
        Checks.due("sure 2", x.sure(2), bad);
        Checks.due("sum -1", x.sum(-1), bad);
        Checks.due("sum 16", x.sum(16), bad);
        Checks.due("mentions -1", x.mentions(-1), bad);
        Checks.due("mentions 3", x.mentions(3), bad);
    }

    private static void edgesInMillimetres() {
        LifeList x = new LifeList();
        x.work(0, 300, 200, 1, 1850, 1900);
        int[][] sizes = {{305, 195, 7}, {295, 205, 7}, {306, 200, 0}, {294, 200, 0}, {300, 206, 0}, {300, 194, 0}};
        for (int[] size : sizes) {
            int m = sized(x, SALE, size[0], size[1], MILLIMETRES, false);
            Checks.due("score of " + size[0] + " " + size[1], x.score(m, 0), size[2]);
        }
    }

    private static void edgesInInches() {
        // 10 inches stand for 2413 to 2667 tenths, 11 for 2667 to 2921.
        int[] sides = {241, 242, 266, 267, 292, 293};
        int[] tens = {0, 7, 7, 0, 0, 0};
        int[] elevens = {0, 0, 0, 7, 7, 0};
        for (int i = 0; i < sides.length; i++) {
            LifeList x = new LifeList();
            x.work(0, sides[i], sides[i], 1, 1850, 1900);
            Checks.due("10 inches, " + sides[i], x.score(sized(x, SALE, 10, 10, INCHES, false), 0), tens[i]);
            Checks.due("11 inches, " + sides[i], x.score(sized(x, SALE, 11, 11, INCHES, false), 0), elevens[i]);
        }
        // 197 inches begin at 49911 tenths, 196 end there.
        LifeList y = new LifeList();
        y.work(0, 4990, 4990, 1, 1850, 1900);
        Checks.due("197 inches are too much", y.score(sized(y, SALE, 197, 197, INCHES, false), 0), 0);
        Checks.due("196 inches are less", y.score(sized(y, SALE, 196, 196, INCHES, false), 0), 7);
        // 12 inches begin at 2921 tenths, 14 at 3429.
        LifeList z = new LifeList();
        z.work(0, 292, 343, 1, 1850, 1900);
        Checks.due("a tenth too little", z.score(sized(z, SALE, 12, 14, INCHES, false), 0), 0);
        z.work(0, 293, 343, 1, 1850, 1900);
        Checks.due("a tenth more than needed", z.score(sized(z, SALE, 12, 14, INCHES, false), 1), 7);
    }

    private static void frames() {
        LifeList x = new LifeList();
        x.work(0, 300, 200, 1, 1850, 1900);
        int[][] sizes = {{340, 240, 7}, {335, 235, 7}, {334, 240, 0}, {300, 200, 0}, {540, 440, 7}, {545, 445, 7},
            {546, 440, 0}, {400, 309, 7}, {400, 311, 0}, {401, 291, 7}, {402, 291, 0}};
        for (int[] size : sizes) {
            int m = sized(x, SALE, size[0], size[1], MILLIMETRES, true);
            Checks.due("framed " + size[0] + " " + size[1], x.score(m, 0), size[2]);
        }
        // These would take a frame of 52.5 or 48.5 millimetres.
        Checks.due("no half millimetres", x.score(sized(x, SALE, 400, 310, MILLIMETRES, true), 0), 0);
        Checks.due("no half millimetres", x.score(sized(x, SALE, 402, 292, MILLIMETRES, true), 0), 0);
        // 22 inches stand for 5461 to 5715 tenths: the height takes a frame of 21, the width one of 20 at most.
        x.work(0, 506, 531, 1, 1850, 1900);
        Checks.due("no frame for both", x.score(sized(x, SALE, 22, 22, INCHES, true), 1), 0);
        x.work(0, 507, 531, 1, 1850, 1900);
        Checks.due("20 for both", x.score(sized(x, SALE, 22, 22, INCHES, true), 2), 7);
        Checks.due("in inches", x.score(sized(x, LETTER, 15, 11, INCHES, true), 0), 7);
        Checks.due("in inches, no frame", x.score(sized(x, LETTER, 12, 8, INCHES, true), 0), 0);
    }

    private static void exchanged() {
        LifeList x = new LifeList();
        x.work(0, 300, 200, 1, 1850, 1900);
        Checks.due("a show", x.score(sized(x, SHOW, 200, 300, MILLIMETRES, false), 0), 7);
        Checks.due("a show as it is", x.score(sized(x, SHOW, 300, 200, MILLIMETRES, false), 0), 7);
        Checks.due("a show, framed", x.score(sized(x, SHOW, 300, 400, MILLIMETRES, true), 0), 7);
        Checks.due("a sale", x.score(sized(x, SALE, 200, 300, MILLIMETRES, false), 0), 0);
        Checks.due("a letter", x.score(sized(x, LETTER, 200, 300, MILLIMETRES, false), 0), 0);
    }

    private static void sizesOfTheYear() {
        LifeList x = new LifeList();
        x.work(2, 300, 200, 1, 1850, 1900);
        x.cut(0, 1920, 250, 200);
        int whole = x.mention(SALE, 0, 1919, 300, 200, 0, false, 1, -1);
        int late = x.mention(SALE, 0, 1920, 300, 200, 0, false, 1, -1);
        int less = x.mention(SALE, 0, 1920, 250, 200, 0, false, 1, -1);
        Checks.due("ahead of the cut", x.score(whole, 0), 7);
        Checks.due("whole behind the cut", x.score(late, 0), 0);
        Checks.due("cut", x.score(less, 0), 7);
    }

    private static void yearsAndStates() {
        LifeList x = new LifeList();
        x.work(0, 300, 200, 1, 1850, 1900);
        x.work(0, 300, 200, 2, 1870, 1900);
        int early = x.mention(SALE, 0, 1849, 0, 0, 0, false, 1, -1);
        int right = x.mention(SALE, 0, 1850, 0, 0, 0, false, 1, -1);
        Checks.due("ahead of low", x.score(early, 0), 0);
        Checks.due("at low", x.score(right, 0), 4);
        x.clue(1, 0, 5);
        Checks.due("low by clues", x.score(right, 0), 0);
        int later = x.mention(SALE, 0, 1875, 0, 0, 0, false, 1, -1);
        Checks.due("at low by clues", x.score(later, 0), 4);
        x.clue(0, 1, 5);
        Checks.due("as told when they quarrel", x.score(right, 0), 4);
        Checks.due("strike", x.vote(1, 9999, 7, 0, true), 1);
        Checks.due("clues of a struck work do not count", x.score(right, 0), 4);
        Checks.due("strike", x.vote(0, 0, 7, 0, true), 1);
        Checks.due("a struck work", x.score(right, 0), 0);
        Checks.due("in again", x.vote(0, 0, 7, 0, false), 1);
        Checks.due("not struck", x.score(right, 0), 4);
    }

    private static void words() {
        LifeList x = new LifeList();
        x.work(0, 300, 200, (1 << 30) - 1, 1850, 1900);
        x.retitle(0, 1960, 3);
        Checks.due("all words", x.score(worded(x, SALE, 0, (1 << 30) - 1), 0), 120);
        Checks.due("no words", x.score(worded(x, SALE, 0, 0), 0), 0);
        Checks.due("two words", x.score(worded(x, SALE, 0, 6), 0), 8);
        Checks.due("the later title", x.score(x.mention(SALE, 0, 1960, 0, 0, 0, false, 6, -1), 0), 4);
        Checks.due("sizes alone", x.score(x.mention(SALE, 0, 1960, 300, 200, 0, false, 4, -1), 0), 0);
    }

    private static void ownersTold() {
        LifeList x = new LifeList();
        x.work(0, 300, 200, 1, 1850, 1900);
        int word = x.mention(SALE, 0, 1950, 0, 0, 0, false, 1, 5);
        int bare = x.mention(SALE, 0, 1950, 0, 0, 0, false, 0, 5);
        int size = x.mention(SALE, 0, 1950, 300, 200, 0, false, 0, 5);
        Checks.due("no owner known", x.score(word, 0), 4);
        Checks.due("no owner known, no word", x.score(bare, 0), 0);
        x.holding(0, 5, 1900, 1900, 1960, 1960);
        Checks.due("the owner", x.score(word, 0), 9);
        Checks.due("the owner alone", x.score(bare, 0), 5);
        Checks.due("the owner and sizes", x.score(size, 0), 8);
        x.holding(0, 6, 1900, 1900, 1960, 1960);
        Checks.due("two: none", x.score(word, 0), 4);
        x.unhold();
        x.unhold();
        x.holding(0, 6, 1900, 1900, 1960, 1960);
        Checks.due("another", x.score(word, 0), 0);
        x.unhold();
        x.holding(0, 6, 1900, 1951, 1960, 1960);
        Checks.due("another who only may", x.score(word, 0), 4);
        int zero = x.mention(SALE, 0, 1955, 0, 0, 0, false, 1, 0);
        Checks.due("owner 0 is told too", x.score(zero, 0), 0);
    }

    /** What the last call changed counts in the next one, whichever it is. */
    private static void seenAtOnce() {
        for (int call = 0; call < 7; call++) {
            LifeList x = new LifeList();
            x.work(0, 300, 200, 1, 1850, 1900);
            worded(x, SALE, 15, 1);
            int due = call == 1 ? 0 : call == 4 || call == 6 ? 4 : 1;
            Checks.due("there, " + call, asked(x, call), call == 1 ? 0 : due);
            x.vote(0, 0, 7, 0, true);
            int gone = call == 1 || call == 2 ? LifeList.NONE : 0;
            Checks.due("struck, " + call, asked(x, call), gone);
            x.vote(0, 0, 7, 0, false);
            Checks.due("there again, " + call, asked(x, call), due);
        }
    }

    private static int asked(LifeList x, int call) {
        switch (call) {
            case 0:
                return x.rivals(0);
            case 1:
                return x.joined(0);
            case 2:
                return x.sure(0);
            case 3:
                return x.mentions(1);
            case 4:
                return x.sum(15);
            case 5:
                return x.counted(SALE, SHOW, 0);
            default:
                return x.score(0, 0);
        }
    }

    private static void rivalsAndLost() {
        LifeList x = new LifeList();
        for (int i = 0; i < 5; i++) {
            x.work(0, 300, 200, 1 << i | 1 << 10, 1850, 1900);
        }
        int one = worded(x, SALE, 3, 4);
        int all = worded(x, SALE, 3, 1 << 10);
        int none = worded(x, SALE, 3, 1 << 20);
        Checks.due("one", x.rivals(one), 1);
        Checks.due("all", x.rivals(all), 5);
        Checks.due("none", x.rivals(none), 0);
        Checks.due("lost", x.mentions(0), 1);
        Checks.due("joined", x.mentions(1), 2);
        Checks.due("sum", x.sum(3), 8);
        Checks.due("sum of another event", x.sum(4), 0);
    }

    private static void joinedFirst() {
        LifeList x = new LifeList();
        x.work(0, 300, 200, 1, 1850, 1900);
        x.work(0, 300, 200, 1 | 2, 1850, 1900);
        x.work(0, 300, 200, 1 | 4, 1850, 1900);
        int first = worded(x, SALE, 0, 1);
        int second = worded(x, SALE, 0, 1);
        Checks.due("the lesser work first", x.joined(first), 0);
        Checks.due("then the next", x.joined(second), 1);
        int better = worded(x, SALE, 0, 3);
        Checks.due("all together most", x.joined(better), 1);
        Checks.due("the second moves on", x.joined(second), 2);
        int fourth = worded(x, SALE, 0, 1);
        Checks.due("none behind all", x.joined(fourth), LifeList.NONE);
        Checks.due("the first stays", x.joined(first), 0);
        int elsewhere = worded(x, LETTER, 1, 1);
        Checks.due("events do not share", x.joined(elsewhere), 0);
        Checks.due("sum", x.sum(0), 16);
    }

    private static void sureOnes() {
        LifeList x = new LifeList();
        x.work(0, 300, 200, 1, 1850, 1900);
        x.work(0, 300, 200, 3, 1850, 1900);
        int both = worded(x, SALE, 0, 1);
        Checks.due("either would do", x.sure(both), 0);
        int strong = worded(x, SALE, 0, 3);
        Checks.due("now only the first is left", x.sure(both), 1);
        Checks.due("the stronger", x.sure(strong), 1);
        int third = worded(x, SALE, 0, 1);
        Checks.due("either mention would do", x.sure(both), 0);
        Checks.due("joined to none", x.sure(third), LifeList.NONE);
        Checks.due("still sure", x.sure(strong), 1);
        Checks.due("sure ones", x.mentions(2), 1);
        Checks.due("joined ones", x.mentions(1), 2);
    }

    private static void eightOfAnEvent() {
        LifeList x = new LifeList();
        for (int i = 0; i < 10; i++) {
            x.work(0, 300, 200, 1 << i, 1850, 1900);
        }
        for (int i = 0; i < 10; i++) {
            worded(x, SALE, 7, 1 << i);
        }
        for (int i = 0; i < 10; i++) {
            Checks.due("joined " + i, x.joined(i), i < 8 ? i : LifeList.NONE);
            Checks.due("sure " + i, x.sure(i), i < 8 ? 1 : LifeList.NONE);
            Checks.due("it fits all the same", x.rivals(i), 1);
        }
        Checks.due("sum", x.sum(7), 32);
        Checks.due("lost", x.mentions(0), 0);
        Checks.due("joined", x.mentions(1), 8);
        Checks.due("sure", x.mentions(2), 8);
    }

    private static void manyWorks() {
        LifeList x = new LifeList();
        for (int i = 0; i < 40; i++) {
            x.work(0, 300, 200, i < 32 ? 1 : 1 | 2 << i - 32, 1850, 1900);
        }
        for (int i = 0; i < 8; i++) {
            worded(x, SALE, 0, 1 | 2 << i);
        }
        for (int i = 0; i < 8; i++) {
            Checks.due("joined " + i, x.joined(i), 32 + i);
            Checks.due("sure " + i, x.sure(i), 1);
        }
        for (int i = 0; i < 8; i++) {
            worded(x, LETTER, 1, 1);
        }
        for (int i = 0; i < 8; i++) {
            Checks.due("joined " + i, x.joined(8 + i), i);
            Checks.due("not sure " + i, x.sure(8 + i), 0);
        }
        Checks.due("sum", x.sum(0), 64);
        Checks.due("sum", x.sum(1), 32);
        Checks.due("sure ones", x.mentions(2), 8);
    }

    private static void counted() {
        LifeList x = new LifeList();
        for (int i = 0; i < 6; i++) {
            x.work(0, 300, 200, 1 << i, 1850, 1900);
        }
        for (int i = 0; i < 5; i++) {
            worded(x, SALE, 0, 1 << i);
        }
        worded(x, SALE, 1, 1);
        for (int i = 3; i < 6; i++) {
            worded(x, SHOW, 2, 1 << i);
        }
        int[] due = {5, 3, 2, 7, 6};
        for (int what = 0; what < due.length; what++) {
            Checks.due("counted " + what, x.counted(SALE, SHOW, what), due[what]);
        }
        Checks.due("the other way", x.counted(SHOW, SALE, 0), 3);
        Checks.due("none in common", x.counted(SALE, LETTER, 3), LifeList.NONE);
        Checks.due("none in common, 4", x.counted(SALE, LETTER, 4), 5);
        Checks.due("like kinds", x.counted(1, 1, 0), LifeList.BAD);
        Checks.due("kind -1", x.counted(-1, 1, 0), LifeList.BAD);
        Checks.due("kind 3", x.counted(0, 3, 0), LifeList.BAD);
        Checks.due("kind 3", x.counted(3, 0, 0), LifeList.BAD);
        Checks.due("what -1", x.counted(0, 1, -1), LifeList.BAD);
        Checks.due("what 5", x.counted(0, 1, 5), LifeList.BAD);
        worded(x, SHOW, 2, 1 << 5);
        Checks.due("one that is not sure", x.counted(SALE, SHOW, 1), 2);
    }

    private static void fullOfMentions() {
        LifeList x = new LifeList();
        for (int i = 0; i < 50; i++) {
            Checks.due("mention", worded(x, i % 3, i % 16, 1), i);
        }
        Checks.due("a 51st", worded(x, 0, 0, 1), LifeList.FULL);
        Checks.due("BAD ahead of FULL", worded(x, 3, 0, 1), LifeList.BAD);
        Checks.due("all are lost", x.mentions(0), 50);
        Checks.due("joined to none", x.joined(49), LifeList.NONE);
    }
}
