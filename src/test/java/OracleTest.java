import java.util.ArrayList;
import java.util.Arrays;
import java.util.List;
import java.util.Random;

/**
 * Runs of random calls, each answer against that of a second program that does all the slow way: it
 * keeps what was told as it was told, tries all frames, all choices, and reckons years by another method.
 */
public final class OracleTest {
    private static final int RUNS = 400, CALLS = 512;

    public static void main(String[] args) {
        for (int seed = 0; seed < RUNS; seed++) {
            run(seed);
        }
        Checks.end();
    }

    private static void run(int seed) {
        Dice dice = new Dice(seed);
        LifeList list = new LifeList();
        Slow slow = new Slow();
        int works = seed % 5 == 4 ? dice.among(10, 40) : dice.among(1, seed % 5 == 3 ? 40 : 9);
        for (int call = 0; call < CALLS; call++) {
            int[] a = dice.call(slow, works);
            int got = call(list, a);
            int due = slow.answer(a);
            Checks.due("seed " + seed + " call " + call + " " + Arrays.toString(a), got, due);
            if (got != due) {
                return;
            }
        }
    }

    private static int call(LifeList x, int[] a) {
        switch (a[0]) {
            case 0: return x.work(a[1], a[2], a[3], a[4], a[5], a[6]);
            case 1: return x.version(a[1], a[2], a[3], a[4], a[5], a[6]);
            case 2: return x.print(a[1], a[7] == 1, a[2], a[3], a[4], a[5], a[6]);
            case 3: return x.retitle(a[1], a[2], a[3]);
            case 4: return x.cut(a[1], a[2], a[3], a[4]);
            case 5: return x.told(a[1], a[2]);
            case 6: return x.then(a[1], a[2], a[3]);
            case 7: return x.turned(a[1]);
            case 8: return x.holding(a[1], a[2], a[3], a[4], a[5], a[6]);
            case 9: return x.unhold();
            case 10: return x.owner(a[1], a[2]);
            case 11: return x.may(a[1], a[2]);
            case 12: return x.twice(a[1]);
            case 13: return x.gap(a[1], a[2]);
            case 14: return x.mention(a[1], a[2], a[3], a[4], a[5], a[6], a[7] == 1, a[8], a[9]);
            case 15: return x.score(a[1], a[2]);
            case 16: return x.rivals(a[1]);
            case 17: return x.joined(a[1]);
            case 18: return x.sure(a[1]);
            case 19: return x.sum(a[1]);
            case 20: return x.mentions(a[1]);
            case 21: return x.counted(a[1], a[2], a[3]);
            case 22: return x.clue(a[1], a[2], a[3]);
            case 23: return x.use(a[1], a[2] == 1);
            case 24: return x.made(a[1], a[2]);
            case 25: return x.quarrel();
            case 26: return x.asides();
            case 27: return x.aside(a[1]);
            case 28: return x.kin(a[1], a[2]);
            case 29: return x.type(a[1], a[2]);
            case 30: return x.rules();
            case 31: return x.rule(a[1], a[2]);
            case 32: return x.vote(a[1], a[2], a[3], a[4], a[5] == 1);
            case 33: return x.votes(a[1], a[2]);
            case 34: return x.state(a[1], a[2], a[3]);
            case 35: return x.unsure(a[1], a[2]);
            case 36: return x.leaning(a[1]);
            case 37: return x.edition();
            case 38: return x.number(a[1]);
            case 39: return x.count(a[1]);
            case 40: return x.sheet(a[1], a[2], a[3]);
            case 41: return x.drop(a[1]);
            case 42: return x.item(a[1], a[2], a[3], a[4]);
            default: return x.holdings(a[1], a[2], a[3], a[4]);
        }
    }

    /** Draws calls, most of them such as are not refused. */
    private static final class Dice {
        private final Random random;
        /** Rules that are being typed. */
        private String pending = "";
        private int itemsLeft = 0;
        private final int span;
        /** All mentions fit many works, by words alone. */
        private final boolean isDense;

        Dice(int seed) {
            random = new Random(seed);
            span = among(3, 60);
            isDense = seed % 5 == 4;
        }

        int among(int least, int most) {
            return least + random.nextInt(most - least + 1);
        }

        /** Mostly below n; now and then beside it. */
        int index(int n) {
            return random.nextInt(25) == 0 ? among(-1, n) : n == 0 ? 0 : random.nextInt(n);
        }

        int year() {
            return random.nextInt(60) == 0 ? among(1798, 2001) : random.nextInt(8) == 0 ? among(1800, 1999)
                    : among(1900, 1900 + span);
        }

        int side() {
            return random.nextInt(60) == 0 ? among(0, 5100) : 10 * among(28, 32) + among(-5, 5);
        }

        int words() {
            if (isDense) {
                return 1 << random.nextInt(6) | 1 << random.nextInt(6) | 1 << random.nextInt(6);
            }
            return random.nextInt(40) == 0 ? random.nextInt() : random.nextInt(4) == 0 ? 0
                    : random.nextInt(32) & random.nextInt(32) | 1 << random.nextInt(5);
        }

        private int[] row(int... call) {
            return call;
        }

        private int[] workCall(Slow slow, int kind) {
            int low = year();
            int of = kind == 0 ? 2 * random.nextInt(2) : index(slow.works.size());
            int title = random.nextInt(50) == 0 ? 0 : words() | 1;
            int high = Math.min(1999, low + random.nextInt(span)) - (random.nextInt(50) == 0 ? 5 : 0);
            return row(kind, of, side(), side(), title, low, high, random.nextInt(2));
        }

        private int[] holdingCall(int work) {
            int[] years = {year(), year(), year(), year()};
            if (random.nextInt(12) != 0) {
                Arrays.sort(years);
            }
            if (random.nextInt(5) == 0) {
                int kept = years[1];
                years[1] = years[2];
                years[2] = kept;
            }
            return row(8, work, random.nextInt(40) == 0 ? 20 : random.nextInt(4), years[0], years[1], years[2], years[3]);
        }

        private int[] mentionCall() {
            int unit = random.nextInt(2);
            int height = unit == 0 ? side() : among(11, 13);
            int width = unit == 0 ? side() : among(11, 13);
            boolean isFramed = random.nextInt(3) == 0;
            if (isFramed) {
                int more = unit == 0 ? among(30, 260) : among(1, 10);
                height += more;
                width += more;
            }
            boolean isSized = random.nextInt(3) != 0 && !isDense;
            return row(14, index(3), random.nextInt(30) == 0 ? among(-1, 16) : random.nextInt(3), isDense ? 1999 : year(),
                    isSized ? height : 0, isSized ? width : 0, unit, isFramed ? 1 : 0, words(), among(-1, 3));
        }

        private int[] voteCall(int work) {
            int fors = random.nextInt(256);
            int against = random.nextInt(20) == 0 ? random.nextInt(256) : random.nextInt(256) & random.nextInt(256) & ~fors;
            return row(32, work, random.nextInt(30) == 0 ? among(-1, 10000) : 100 * random.nextInt(span) + random.nextInt(3),
                    random.nextInt(15) == 0 ? 0 : fors, against, random.nextInt(3) == 0 ? 1 : 0);
        }

        private String clause() {
            String[] parts = {"" + "pvdr".charAt(random.nextInt(4)), "" + among(1, 8), ",", "" + among(1, 4), "/", "" + among(4, 9)};
            StringBuilder text = new StringBuilder();
            for (String part : parts) {
                text.append(random.nextInt(60) == 0 ? "x0;12 9".charAt(random.nextInt(7)) + "" : part);
                text.append(random.nextInt(15) == 0 ? " " : "");
            }
            return text.toString();
        }

        private String rulesText() {
            StringBuilder text = new StringBuilder(clause());
            for (int more = random.nextInt(3) == 0 ? among(1, 4) : 0; more > 0; more--) {
                text.append(random.nextInt(40) == 0 ? "," : ";").append(clause());
            }
            return random.nextInt(20) == 0 ? text.substring(0, random.nextInt(text.length())) : text.toString();
        }

        private int[] typeCall() {
            if (pending.isEmpty()) {
                pending = rulesText() + " ";
            }
            String text = pending.length() > 4 ? pending.substring(0, 4) : pending;
            pending = pending.substring(text.length());
            int bytes = 0;
            for (int i = 0; i < text.length(); i++) {
                bytes = bytes << 8 | text.charAt(i);
            }
            return row(29, bytes, random.nextInt(40) == 0 ? among(-1, 9) : text.length());
        }

        int[] call(Slow slow, int most) {
            int n = slow.works.size();
            if (n < most && random.nextInt(3) == 0) {
                return workCall(slow, random.nextInt(3));
            }
            if (!pending.isEmpty() && random.nextInt(2) == 0) {
                return typeCall();
            }
            int work = index(n);
            int call = random.nextInt(44);
            switch (call) {
                case 0: case 1: case 2:
                    return random.nextInt(4) == 0 ? workCall(slow, call) : mentionCall();
                case 3: return row(3, work, year(), words());
                case 4: return row(4, work, year(), side() - random.nextInt(30), side() - random.nextInt(30));
                case 5: return row(5, work, index(6));
                case 6: return row(6, work, year(), index(3));
                case 7: return row(7, work);
                case 8: return holdingCall(work);
                case 9: return random.nextInt(3) == 0 ? row(9) : holdingCall(work);
                case 10: return row(10, work, year());
                case 11: return row(11, work, year());
                case 12: return row(12, work);
                case 13: return row(13, work, year());
                case 14: return mentionCall();
                case 15: return row(15, index(slow.mentions.size()), work);
                case 16: case 17: case 18: return row(call, index(slow.mentions.size()));
                case 19: return row(19, random.nextInt(30) == 0 ? among(-1, 16) : random.nextInt(3));
                case 20: return row(20, index(3));
                case 21: return row(21, index(3), index(3), index(5));
                case 22: return row(22, work, index(n), random.nextInt(20) == 0 ? among(-32, 32) : among(-9, 7));
                case 23: return row(23, index(slow.clues.size()), random.nextInt(3) == 0 ? 0 : 1);
                case 24: return row(24, work, index(2));
                case 25: case 26: return row(call);
                case 30: return pending.isEmpty() || random.nextInt(20) == 0 ? row(30) : typeCall();
                case 27: return row(27, among(-1, 3));
                case 28: return row(28, index(8), random.nextInt(30) == 0 ? random.nextInt() : random.nextInt(16) & random.nextInt(16));
                case 29: return typeCall();
                case 31: return row(31, index(4), index(3));
                case 32: return voteCall(work);
                case 33: return row(33, index(slow.votes.size()), index(6));
                case 34: return row(34, work, 100 * random.nextInt(span) + among(-1, 3), index(slow.votes.size() + 1));
                case 35: return row(35, 100 * random.nextInt(span) + among(-1, 3), index(slow.votes.size() + 1));
                case 36: case 38: return row(call, work);
                case 37: return random.nextInt(2) == 0 ? row(37) : voteCall(work);
                case 39: return row(39, index(8));
                case 40: return random.nextInt(3) == 0 ? row(40, index(4), index(3), among(-2, 62)) : typeCall();
                case 41: return row(41, random.nextInt(3) == 0 ? index(4) : -1);
                case 42: return itemCall(slow);
                default: return row(43, index(4), index(3), among(-1, 13), random.nextInt(20) == 0 ? among(-1, 11) : among(0, 2));
            }
        }

        /** Lays items such that a holding comes to stand, more often than not on the lane that is there. */
        private int[] itemCall(Slow slow) {
            int sheet = index(4);
            boolean isThere = sheet >= 0 && sheet < 4 && slow.sheets[sheet] != null;
            int lane = isThere && random.nextInt(10) != 0 ? slow.lanes[sheet] : index(3);
            itemsLeft = itemsLeft == 0 ? 11 : itemsLeft - 1;
            int i = random.nextInt(20) == 0 ? among(-1, 60) : itemsLeft;
            int value = i % 6 < 2 ? random.nextInt(4) : 1900 + 10 * (i % 6);
            return row(42, sheet, lane, i, value + (random.nextInt(20) == 0 ? 65536 : 0));
        }
    }

    private record Work(int kind, int of, int height, int width, int low, int high, boolean isTurned,
            List<int[]> titles, List<int[]> cuts) {
    }

    private record Held(int work, int owner, int a, int b, int c, int d) {
        boolean surely(int year) {
            return b <= year && year <= c;
        }

        boolean may(int year) {
            return a <= year && year <= d;
        }
    }

    private record Vote(int work, int day, boolean isPassed, int voted, int leftOut, boolean isStrike) {
    }

    private static final class Slow {
        final List<Work> works = new ArrayList<>();
        final List<Held> held = new ArrayList<>();
        final List<int[]> mentions = new ArrayList<>();
        final List<int[]> clues = new ArrayList<>();
        final List<Vote> votes = new ArrayList<>();
        final int[] kin = new int[8];
        int[][] rules = {{3, 2, 3}, {3, 2, 3}, {3, 2, 3}, {3, 2, 3}};
        String tape = "";
        int editions = 0;
        final int[] numbers = new int[40];
        final int[] given = new int[41];
        final long[][] sheets = new long[4][];
        final int[] lanes = new int[4];

        private static boolean in(int x, int low, int high) {
            return x >= low && x <= high;
        }

        private static boolean year(int x) {
            return in(x, 1800, 1999);
        }

        private static boolean side(int x) {
            return in(x, 10, 5000);
        }

        private static boolean title(int x) {
            return in(x, 1, (1 << 30) - 1);
        }

        private boolean isWork(int x) {
            return in(x, 0, works.size() - 1);
        }

        int answer(int[] a) {
            boolean isAsking = a[0] > 2 && a[0] != 22 && a[0] != 23 && a[0] != 32;
            changes += isAsking ? 0 : 1;
            Arrays.fill(joinsKnown, null);
            switch (a[0]) {
                case 0: case 1: case 2: return add(a);
                case 3: return retitle(a[1], a[2], a[3]);
                case 4: return cut(a[1], a[2], a[3], a[4]);
                case 5: return told(a[1], a[2]);
                case 6: return !isWork(a[1]) || !year(a[2]) || !in(a[3], 0, 2) ? -1
                        : a[3] == 0 ? titleThen(a[1], a[2]) : sizeThen(a[1], a[2], a[3]);
                case 7: return !isWork(a[1]) ? -1 : works.get(a[1]).kind != 3 ? -12 : works.get(a[1]).isTurned ? 1 : 0;
                case 8: return !isHeld(a[1], a[2], a[3], a[4], a[5], a[6]) ? -1 : held.size() == 60 ? -3
                        : hold(a[1], a[2], a[3], a[4], a[5], a[6]) - 1;
                case 9: return held.isEmpty() ? -2 : unhold();
                case 10: return !isWork(a[1]) || !year(a[2]) ? -1 : owner(a[1], a[2]);
                case 11: return !isWork(a[1]) || !year(a[2]) ? -1 : may(a[1], a[2]);
                case 12: return !isWork(a[1]) ? -1 : twice(a[1]);
                case 13: return !isWork(a[1]) || !year(a[2]) ? -1 : gap(a[1], a[2]);
                case 14: return mention(a);
                case 15: return !isMention(a[1]) || !isWork(a[2]) ? -1 : score(a[1], a[2]);
                case 16: return !isMention(a[1]) ? -1 : rivals(a[1]);
                case 17: return !isMention(a[1]) ? -1 : joined(a[1]);
                case 18: return !isMention(a[1]) ? -1 : sure(a[1]);
                case 19: return !in(a[1], 0, 15) ? -1 : best(first(a[1]), -1, -1);
                case 20: return !in(a[1], 0, 2) ? -1 : countMentions(a[1]);
                case 21: return counted(a[1], a[2], a[3]);
                case 22: return clue(a[1], a[2], a[3]);
                case 23: return use(a[1], a[2]);
                case 24: return !isWork(a[1]) || !in(a[2], 0, 1) ? -1 : quarrels(0) ? -2 : bound(a[1], a[2]);
                case 25: return quarrels(0) ? 1 : 0;
                case 26: return asides() < 0 ? -4 : Integer.bitCount(asides());
                case 27: return aside(a[1]);
                case 28: return kin(a[1], a[2]);
                case 29: return type(a[1], a[2]);
                case 30: return readRules();
                case 31: return !in(a[1], 0, 3) || !in(a[2], 0, 2) ? -1 : rules[a[1]][a[2]];
                case 32: return vote(a[1], a[2], a[3], a[4], a[5] == 1);
                case 33: return votes(a[1], a[2]);
                case 34: return !isWork(a[1]) || !asOf(a[2], a[3]) ? -1 : state(a[1], a[2], a[3]);
                case 35: return !asOf(a[1], a[2]) ? -1 : unsure(a[1], a[2]);
                case 36: return !isWork(a[1]) ? -1 : leaning(a[1]);
                case 37: return editions == 9 ? -3 : edition();
                case 38: return !isWork(a[1]) ? -1 : numbers[a[1]] == 0 ? -4 : numbers[a[1]];
                case 39: return count(a[1]);
                case 40: return sheet(a[1], a[2], a[3]);
                case 41: return drop(a[1]);
                case 42: return item(a[1], a[2], a[3], a[4]);
                default: return holdings(a[1], a[2], a[3], a[4]);
            }
        }

        private int add(int[] a) {
            boolean isOf = a[0] == 0 ? a[1] == 0 || a[1] == 2 : isWork(a[1]);
            if (!isOf || !side(a[2]) || !side(a[3]) || !title(a[4]) || !year(a[5]) || !year(a[6]) || a[5] > a[6]) {
                return -1;
            }
            if (a[0] == 1 && works.get(a[1]).kind > 1) {
                return -12;
            }
            if (works.size() == 40) {
                return -3;
            }
            int kind = a[0] == 0 ? a[1] : a[0] == 1 ? 1 : 3;
            works.add(new Work(kind, a[0] == 0 ? -4 : a[1], a[2], a[3], a[5], a[6], a[7] == 1, new ArrayList<>(), new ArrayList<>()));
            works.get(works.size() - 1).titles.add(new int[] {Integer.MIN_VALUE, a[4]});
            return works.size() - 1;
        }

        private int retitle(int work, int year, int title) {
            if (!isWork(work) || !year(year) || !title(title)) {
                return -1;
            }
            List<int[]> titles = works.get(work).titles;
            if (titles.stream().anyMatch(one -> one[0] >= year)) {
                return -2;
            }
            if (titles.size() == 4) {
                return -3;
            }
            titles.add(new int[] {year, title});
            return titles.size();
        }

        private int cut(int work, int year, int height, int width) {
            if (!isWork(work) || !year(year) || !side(height) || !side(width)) {
                return -1;
            }
            Work one = works.get(work);
            if (one.kind < 2) {
                return -12;
            }
            boolean isSame = height >= one.height && width >= one.width;
            if (!one.cuts.isEmpty() || isSame || height > one.height || width > one.width) {
                return -2;
            }
            one.cuts.add(new int[] {year, height, width});
            return 1;
        }

        private int told(int work, int what) {
            if (!isWork(work) || !in(what, 0, 5)) {
                return -1;
            }
            Work one = works.get(work);
            return new int[] {one.kind, one.height, one.width, one.low, one.high, one.of}[what];
        }

        private int titleThen(int work, int year) {
            int title = 0;
            for (int[] one : works.get(work).titles) {
                title = one[0] <= year ? one[1] : title;
            }
            return title;
        }

        private int sizeThen(int work, int year, int which) {
            Work one = works.get(work);
            for (int[] cut : one.cuts) {
                if (cut[0] <= year) {
                    return cut[which];
                }
            }
            return which == 1 ? one.height : one.width;
        }

        private boolean isHeld(long work, long owner, long a, long b, long c, long d) {
            return work >= 0 && work < works.size() && owner >= 0 && owner < 20 && 1800 <= a && a <= b && a <= c && b <= d
                    && c <= d && d <= 1999;
        }

        private int hold(int work, int owner, int a, int b, int c, int d) {
            held.add(new Held(work, owner, a, b, c, d));
            return held.size();
        }

        private int unhold() {
            held.remove(held.size() - 1);
            return held.size();
        }

        private int owner(int work, int year) {
            int[] all = held.stream().filter(one -> one.work == work && one.surely(year)).mapToInt(Held::owner).distinct().toArray();
            return all.length == 1 ? all[0] : -4;
        }

        private int may(int work, int year) {
            return held.stream().filter(one -> one.work == work && one.may(year)).mapToInt(one -> 1 << one.owner)
                    .reduce(0, (one, other) -> one | other);
        }

        private int twice(int work) {
            for (int x = 0; x < held.size(); x++) {
                for (int y = x + 1; y < held.size(); y++) {
                    Held one = held.get(x);
                    Held other = held.get(y);
                    for (int year = 1800; year < 1999 && one.work == work && other.work == work && one.owner != other.owner; year++) {
                        if (one.surely(year) && one.surely(year + 1) && other.surely(year) && other.surely(year + 1)) {
                            return 100 * x + y;
                        }
                    }
                }
            }
            return -4;
        }

        private int gap(int work, int from) {
            for (int year = from; year < 2000; year++) {
                if (may(work, year) == 0) {
                    return year;
                }
            }
            return -4;
        }

        private boolean isMention(int x) {
            return in(x, 0, mentions.size() - 1);
        }

        private int mention(int[] a) {
            boolean isSize = a[4] == 0 && a[5] == 0 || in(a[4], 1, 6000) && in(a[5], 1, 6000);
            if (!in(a[1], 0, 2) || !in(a[2], 0, 15) || !year(a[3]) || !isSize || !in(a[6], 0, 1)
                    || !in(a[8], 0, (1 << 30) - 1) || !in(a[9], -1, 19)) {
                return -1;
            }
            if (mentions.size() == 50) {
                return -3;
            }
            mentions.add(a);
            return mentions.size() - 1;
        }

        private static boolean near(int told, int unit, int tenths) {
            return unit == 0 ? Math.abs(10 * told - tenths) <= 50 : Math.abs(254 * told - tenths) <= 127;
        }

        private boolean sizesFit(int[] m, int height, int width) {
            for (int f = m[7] == 1 ? 20 : 0; f <= (m[7] == 1 ? 120 : 0); f++) {
                if (near(m[4], m[6], 10 * (height + 2 * f)) && near(m[5], m[6], 10 * (width + 2 * f))) {
                    return true;
                }
            }
            return false;
        }

        private int score(int mention, int work) {
            int[] m = mentions.get(mention);
            int height = sizeThen(work, m[3], 1);
            int width = sizeThen(work, m[3], 2);
            boolean isSized = m[4] != 0;
            if (isSized && !sizesFit(m, height, width) && !(m[1] == 2 && sizesFit(m, width, height))) {
                return 0;
            }
            int owner = owner(work, m[3]);
            if (m[9] != -1 && owner != -4 && owner != m[9] || state(work, 9999, votes.size()) == 2) {
                return 0;
            }
            if (m[3] < (quarrels(0) ? works.get(work).low : bound(work, 0))) {
                return 0;
            }
            int score = 4 * Integer.bitCount(m[8] & titleThen(work, m[3])) + (isSized ? 3 : 0) + (m[9] >= 0 && m[9] == owner ? 5 : 0);
            return score >= 4 ? score : 0;
        }

        private int rivals(int mention) {
            int found = 0;
            for (int work = 0; work < works.size(); work++) {
                found += score(mention, work) > 0 ? 1 : 0;
            }
            return found;
        }

        private int[] ofEvent(int event) {
            return java.util.stream.IntStream.range(0, mentions.size()).filter(m -> mentions.get(m)[2] == event).limit(8).toArray();
        }

        private int[][] first(int event) {
            int[] firsts = ofEvent(event);
            int[][] scores = new int[firsts.length][works.size()];
            for (int i = 0; i < firsts.length; i++) {
                for (int work = 0; work < works.size(); work++) {
                    scores[i][work] = score(firsts[i], work);
                }
            }
            return scores;
        }

        /** The most that the scores give without one pair, by all sets of mentions, work by work. */
        private int best(int[][] scores, int without, int withoutWork) {
            int[] best = new int[1 << scores.length];
            for (int work = 0; work < works.size(); work++) {
                for (int set = best.length - 1; set > 0; set--) {
                    for (int i = 0; i < scores.length; i++) {
                        boolean isFree = i != without || work != withoutWork;
                        if ((set >> i & 1) == 1 && isFree && scores[i][work] > 0) {
                            best[set] = Math.max(best[set], best[set & ~(1 << i)] + scores[i][work]);
                        }
                    }
                }
            }
            return best[best.length - 1];
        }

        /** Mention by mention the least work with which the most is still reached. */
        private int[] joins(int[][] scores) {
            int most = best(scores, -1, -1);
            int[] joins = new int[scores.length];
            int[][] left = Arrays.stream(scores).map(int[]::clone).toArray(int[][]::new);
            int fixed = 0;
            for (int i = 0; i < scores.length; i++) {
                joins[i] = -4;
                for (int work = 0; work < works.size() && joins[i] < 0; work++) {
                    if (left[i][work] > 0) {
                        int[][] tried = Arrays.stream(left).map(int[]::clone).toArray(int[][]::new);
                        for (int[] row : tried) {
                            row[work] = 0;
                        }
                        Arrays.fill(tried[i], 0);
                        if (fixed + left[i][work] + best(tried, -1, -1) == most) {
                            joins[i] = work;
                            fixed += left[i][work];
                            left = tried;
                        }
                    }
                }
                Arrays.fill(left[i], 0);
            }
            return joins;
        }

        private int place(int mention) {
            int[] firsts = ofEvent(mentions.get(mention)[2]);
            for (int i = 0; i < firsts.length; i++) {
                if (firsts[i] == mention) {
                    return i;
                }
            }
            return -1;
        }

        private int joined(int mention) {
            int place = place(mention);
            return place < 0 ? -4 : joinsOf(mentions.get(mention)[2])[place];
        }

        /** Kept for as long as one call is answered. */
        private final int[][] joinsKnown = new int[16][];

        private int[] joinsOf(int event) {
            if (joinsKnown[event] == null) {
                joinsKnown[event] = joins(first(event));
            }
            return joinsKnown[event];
        }

        private int sure(int mention) {
            int joined = joined(mention);
            if (joined < 0) {
                return -4;
            }
            int[][] scores = first(mentions.get(mention)[2]);
            return best(scores, place(mention), joined) < best(scores, -1, -1) ? 1 : 0;
        }

        private int countMentions(int what) {
            int found = 0;
            for (int m = 0; m < mentions.size(); m++) {
                found += what == 0 ? rivals(m) == 0 ? 1 : 0 : what == 1 ? joined(m) >= 0 ? 1 : 0 : sure(m) == 1 ? 1 : 0;
            }
            return found;
        }

        private int counted(int one, int other, int what) {
            if (!in(one, 0, 2) || !in(other, 0, 2) || one == other || !in(what, 0, 4)) {
                return -1;
            }
            boolean[][] seen = new boolean[3][40];
            for (int m = 0; m < mentions.size(); m++) {
                if (sure(m) == 1) {
                    seen[mentions.get(m)[1]][joined(m)] = true;
                }
            }
            int x = 0;
            int y = 0;
            int z = 0;
            for (int work = 0; work < 40; work++) {
                x += seen[one][work] ? 1 : 0;
                y += seen[other][work] ? 1 : 0;
                z += seen[one][work] && seen[other][work] ? 1 : 0;
            }
            return what == 0 ? x : what == 1 ? y : what == 2 ? z : what == 4 ? x + y - z : z == 0 ? -4 : x * y / z;
        }

        private int clue(int w, int v, int k) {
            if (!isWork(w) || !isWork(v) || w == v || !in(k, -30, 30)) {
                return -1;
            }
            if (clues.size() == 20) {
                return -3;
            }
            clues.add(new int[] {w, v, k, 1});
            return clues.size() - 1;
        }

        private int use(int clue, int is) {
            if (!in(clue, 0, clues.size() - 1)) {
                return -1;
            }
            int was = clues.get(clue)[3];
            clues.get(clue)[3] = is;
            return was;
        }

        /** The greatest distances from one work to another, the last row that of the year 0. */
        private int[][] distances(int without) {
            int n = works.size();
            int[][] far = new int[n + 1][n + 1];
            for (int[] row : far) {
                Arrays.fill(row, -1000000);
            }
            for (int i = 0; i < n; i++) {
                far[i][i] = 0;
                far[n][i] = works.get(i).low;
                far[i][n] = -works.get(i).high;
            }
            far[n][n] = 0;
            for (int i = 0; i < clues.size(); i++) {
                int[] c = clues.get(i);
                boolean isStruck = state(c[0], 9999, votes.size()) == 2 || state(c[1], 9999, votes.size()) == 2;
                if (c[3] == 1 && !isStruck && (without >> i & 1) == 0) {
                    far[c[0]][c[1]] = Math.max(far[c[0]][c[1]], c[2]);
                }
            }
            for (int k = 0; k <= n; k++) {
                for (int i = 0; i <= n; i++) {
                    for (int j = 0; j <= n; j++) {
                        far[i][j] = Math.max(far[i][j], Math.max(-1000000, Math.min(1000000, far[i][k] + far[k][j])));
                    }
                }
            }
            return far;
        }

        private int changes;
        private int[][] known;
        private int knownOf = -1;

        /** The distances with all clues are asked again and again: kept as long as nothing that they hang on has changed. */
        private int[][] all() {
            if (knownOf != changes) {
                known = distances(0);
                knownOf = changes;
            }
            return known;
        }

        private boolean quarrels(int without) {
            int[][] far = without == 0 ? all() : distances(without);
            for (int i = 0; i < far.length; i++) {
                if (far[i][i] > 0) {
                    return true;
                }
            }
            return false;
        }

        private int bound(int work, int which) {
            return which == 0 ? all()[works.size()][work] : -all()[work][works.size()];
        }

        private int asidesKnown;
        private int asidesOf = -1;

        private int asides() {
            if (asidesOf != changes) {
                asidesKnown = tryAsides();
                asidesOf = changes;
            }
            return asidesKnown;
        }

        /** As bits; of as few the first by numbers. */
        private int tryAsides() {
            if (!quarrels(0)) {
                return 0;
            }
            int n = clues.size();
            for (int i = 0; i < n; i++) {
                if (!quarrels(1 << i)) {
                    return 1 << i;
                }
            }
            for (int i = 0; i < n; i++) {
                for (int j = i + 1; j < n; j++) {
                    if (!quarrels(1 << i | 1 << j)) {
                        return 1 << i | 1 << j;
                    }
                }
            }
            for (int i = 0; i < n; i++) {
                for (int j = i + 1; j < n; j++) {
                    for (int k = j + 1; k < n; k++) {
                        if (!quarrels(1 << i | 1 << j | 1 << k)) {
                            return 1 << i | 1 << j | 1 << k;
                        }
                    }
                }
            }
            return -1;
        }

        private int aside(int i) {
            if (!in(i, 0, 2)) {
                return -1;
            }
            int asides = asides();
            if (asides < 0) {
                return -4;
            }
            for (int skipped = 0; skipped < i; skipped++) {
                asides &= asides - 1;
            }
            return asides == 0 ? -1 : Integer.numberOfTrailingZeros(asides);
        }

        private int kin(int member, int owners) {
            if (!in(member, 0, 7) || !in(owners, 0, (1 << 20) - 1)) {
                return -1;
            }
            int was = kin[member];
            kin[member] = owners;
            return was;
        }

        private int type(long w, int n) {
            if (!in(n, 1, 8)) {
                return -1;
            }
            StringBuilder text = new StringBuilder();
            for (int i = 0; i < n; i++) {
                int one = (int) (w >> 8 * i) & 255;
                if (!in(one, 32, 126)) {
                    return -1;
                }
                text.insert(0, (char) one);
            }
            if (tape.length() + n > 50) {
                return -3;
            }
            tape += text;
            return tape.length();
        }

        /** By a table of what each sign may be, so that the first that may not is found by matching what is ahead of it. */
        private int readRules() {
            String text = tape;
            tape = "";
            int[][] told = new int[4][];
            int at = 0;
            int first = 0;
            int members = 0;
            int kind = 0;
            for (int step = 0; ; step++) {
                while (at < text.length() && text.charAt(at) == ' ') {
                    at++;
                }
                if (step % 7 == 6 && at == text.length()) {
                    rules = inherit(told);
                    return step / 7 + 1;
                }
                if (at == text.length()) {
                    return -20 - at;
                }
                char sign = text.charAt(at);
                int end = at;
                while (end < text.length() && Character.isDigit(text.charAt(end))) {
                    end++;
                }
                java.math.BigInteger number = end == at ? java.math.BigInteger.ZERO : new java.math.BigInteger(text.substring(at, end));
                int value = number.bitLength() > 20 ? 1000 : number.intValue();
                boolean isWell;
                switch (step % 7) {
                    case 0: kind = "pvdr".indexOf(sign); isWell = kind >= 0; break;
                    case 1: members = value; isWell = in(value, 1, 8); break;
                    case 2: isWell = sign == ','; break;
                    case 3: first = value; isWell = in(value, 1, 9); break;
                    case 4: isWell = sign == '/'; break;
                    case 5: isWell = in(value, first, 9); break;
                    default: isWell = sign == ';' && step < 27; break;
                }
                if (!isWell) {
                    return -20 - at;
                }
                if (step % 7 == 5) {
                    told[kind] = new int[] {members, first, value};
                }
                at = Math.max(end, at + 1);
            }
        }

        private static int[][] inherit(int[][] told) {
            int[] p = told[0] == null ? new int[] {1, 1, 1} : told[0];
            int[] v = told[1] == null ? p : told[1];
            int[] d = told[2] == null ? p : told[2];
            int[] r = told[3] == null ? d : told[3];
            return new int[][] {p, v, d, r};
        }

        private int vote(int work, int day, int fors, int against, boolean isStrike) {
            if (!isWork(work) || !in(day, 0, 9999) || !in(fors, 0, 255) || !in(against, 0, 255) || (fors & against) != 0) {
                return -1;
            }
            int yes = 0;
            int voted = 0;
            int out = 0;
            for (int member = 0; member < 8; member++) {
                if (((fors | against) >> member & 1) == 1) {
                    boolean isKin = (kin[member] & may(work, 1900 + day / 100)) != 0;
                    out |= isKin ? 1 << member : 0;
                    voted |= isKin ? 0 : 1 << member;
                    yes += !isKin && (fors >> member & 1) == 1 ? 1 : 0;
                }
            }
            if (voted == 0) {
                return -2;
            }
            if (votes.size() == 60) {
                return -3;
            }
            int[] rule = rules[works.get(work).kind];
            int all = Integer.bitCount(voted);
            boolean isPassed = all >= rule[0] && yes * rule[2] >= rule[1] * all;
            votes.add(new Vote(work, day, isPassed, voted, out, isStrike));
            return isPassed ? 1 : 0;
        }

        private int votes(int i, int what) {
            if (!in(i, 0, votes.size() - 1) || !in(what, 0, 5)) {
                return -1;
            }
            Vote v = votes.get(i);
            return new int[] {v.work, v.day, v.isPassed ? 1 : 0, v.voted, v.leftOut, v.isStrike ? 1 : 0}[what];
        }

        private boolean asOf(int day, int n) {
            return in(day, 0, 9999) && in(n, 0, votes.size());
        }

        private int state(int work, int day, int n) {
            Vote last = null;
            for (Vote v : votes.subList(0, n)) {
                if (v.work == work && v.isPassed && v.day <= day && (last == null || last.day <= v.day)) {
                    last = v;
                }
            }
            return last == null ? 0 : last.isStrike ? 2 : 1;
        }

        private boolean leans(int work, int on) {
            int of = works.get(work).of;
            return of >= 0 && (of == on || leans(of, on));
        }

        private int unsure(int day, int n) {
            int found = 0;
            for (int work = 0; work < works.size(); work++) {
                boolean isUnsure = false;
                for (int on = 0; on < works.size(); on++) {
                    isUnsure |= leans(work, on) && state(on, day, n) != 1;
                }
                found += isUnsure && state(work, day, n) == 1 ? 1 : 0;
            }
            return found;
        }

        private int leaning(int on) {
            int found = 0;
            for (int work = 0; work < works.size(); work++) {
                found += leans(work, on) ? 1 : 0;
            }
            return found;
        }

        private int middle(int work) {
            return quarrels(0) ? works.get(work).low + works.get(work).high : bound(work, 0) + bound(work, 1);
        }

        private int edition() {
            List<Integer> order = new ArrayList<>();
            for (int work = 0; work < works.size(); work++) {
                if (state(work, 9999, votes.size()) == 1) {
                    order.add(work);
                }
            }
            order.sort((one, other) -> middle(one) != middle(other) ? middle(one) - middle(other) : one - other);
            int got = 0;
            for (int i = 0; i < order.size(); i++) {
                if (numbers[order.get(i)] != 0) {
                    continue;
                }
                int nearest = i - 1;
                while (nearest >= 0 && numbers[order.get(nearest)] == 0) {
                    nearest--;
                }
                int base = nearest < 0 ? 0 : numbers[order.get(nearest)] / 100;
                if (editions == 0) {
                    numbers[order.get(i)] = 100 * (i + 1);
                    got++;
                } else if (given[base] < 26) {
                    given[base]++;
                    numbers[order.get(i)] = 100 * base + given[base];
                    got++;
                }
            }
            editions++;
            return got;
        }

        private int count(int what) {
            if (!in(what, 0, 7)) {
                return -1;
            }
            int[] states = new int[3];
            for (int work = 0; work < works.size(); work++) {
                states[state(work, 9999, votes.size())]++;
            }
            return new int[] {works.size(), held.size(), mentions.size(), clues.size(), votes.size(), editions, states[1], states[2]}[what];
        }

        private int sheet(int sheet, int lane, int n) {
            if (!in(sheet, 0, 3) || !in(lane, 0, 2) || n > 60) {
                return -1;
            }
            if (n < 0) {
                return -14;
            }
            sheets[sheet] = new long[n];
            lanes[sheet] = lane;
            return n;
        }

        private int drop(int sheet) {
            if (!in(sheet, 0, 3)) {
                return -1;
            }
            int had = sheets[sheet] == null ? -11 : sheets[sheet].length;
            sheets[sheet] = null;
            return had;
        }

        private int item(int sheet, int lane, int i, int v) {
            if (!in(sheet, 0, 3) || !in(lane, 0, 2)) {
                return -1;
            }
            if (sheets[sheet] == null) {
                return -11;
            }
            if (lanes[sheet] != lane) {
                return -12;
            }
            if (!in(i, 0, sheets[sheet].length - 1)) {
                return -13;
            }
            sheets[sheet][i] = lane == 0 ? (long) (short) v : (long) v;
            return 1;
        }

        private int holdings(int sheet, int lane, int from, int n) {
            if (!in(sheet, 0, 3) || !in(lane, 0, 2) || !in(n, 0, 10)) {
                return -1;
            }
            long[] row = sheets[sheet];
            if (row == null) {
                return -11;
            }
            if (lanes[sheet] != lane) {
                return -12;
            }
            if (from < 0 || (long) from + 6L * n > row.length) {
                return -13;
            }
            for (int i = from; i < from + 6 * n; i += 6) {
                if (!isHeld(row[i], row[i + 1], row[i + 2], row[i + 3], row[i + 4], row[i + 5])) {
                    return -2;
                }
            }
            if (held.size() + n > 60) {
                return -3;
            }
            for (int i = from; i < from + 6 * n; i += 6) {
                hold((int) row[i], (int) row[i + 1], (int) row[i + 2], (int) row[i + 3], (int) row[i + 4], (int) row[i + 5]);
            }
            return held.size();
        }
    }
}
