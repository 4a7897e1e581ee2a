import java.util.Arrays;

/**
 * A painter's works, one by one, and all that is told of them: titles, sizes, owners, mentions,
 * clues to their years, the committee's votes, and the numbers that editions gave them.
 *
 * <p>What works are there, who holds them, which clues count and which votes passed is kept in
 * tables of a fixed length; what follows from these is reckoned anew by each call that asks for
 * it, in rows that are made once, so that no answer can be out of date and no call makes objects.
 */
public final class LifeList {
    public static final int BAD = -1, NOT = -2, FULL = -3, NONE = -4, NULL = -11, CAST = -12, INDEX = -13, SIZE = -14;

    private static final int FIRST_YEAR = 1800, LAST_YEAR = 1999;
    private static final int LAST_DAY = 9999;
    private static final int PAINTING = 0, VERSION = 1, DRAWING = 2, PRINT = 3, KINDS = 4;
    private static final int SHOW = 2, MENTION_KINDS = 3, EVENTS = 16;
    private static final int OWNERS = 20, WORDS = 30, MEMBERS = 8;
    private static final int IN = 1, STRUCK = 2;

    private final Works works = new Works();
    private final Owners owners = new Owners();
    private final Rules ruling = new Rules();
    private final Committee committee = new Committee();
    private final Years years = new Years(works, committee);
    private final Mentions sources = new Mentions(works, owners, years, committee);
    private final Joins joins = new Joins(works, sources);
    private final Editions editions = new Editions(works, years, committee);
    private final Sheets sheets = new Sheets();

    /** Nothing is there; rules as at first. */
    public LifeList() {
    }

    // ---- 1 works

    /** Adds a painting or a drawing. */
    public int work(int kind, int height, int width, int title, int low, int high) {
        if (kind != PAINTING && kind != DRAWING) {
            return BAD;
        }
        if (!isToldWell(height, width, title, low, high)) {
            return BAD;
        }
        return works.add(kind, NONE, height, width, title, low, high);
    }

    /** Adds a version of a painting or of another version. */
    public int version(int of, int height, int width, int title, int low, int high) {
        if (!works.has(of) || !isToldWell(height, width, title, low, high)) {
            return BAD;
        }
        if (!works.isPainted(of)) {
            return CAST;
        }
        return works.add(VERSION, of, height, width, title, low, high);
    }

    /** Adds a print of any work. */
    public int print(int of, boolean isTurned, int height, int width, int title, int low, int high) {
        if (!works.has(of) || !isToldWell(height, width, title, low, high)) {
            return BAD;
        }
        int added = works.add(PRINT, of, height, width, title, low, high);
        if (added >= 0) {
            works.isTurned[added] = isTurned;
        }
        return added;
    }

    /** Gives a work another title from a year on. */
    public int retitle(int work, int year, int title) {
        if (!works.has(work) || !isYear(year) || !isTitle(title)) {
            return BAD;
        }
        return works.addTitle(work, year, title);
    }

    /** Makes a drawing or print smaller from a year on. */
    public int cut(int work, int year, int height, int width) {
        if (!works.has(work) || !isYear(year) || !isSide(height) || !isSide(width)) {
            return BAD;
        }
        if (!works.isOnPaper(work)) {
            return CAST;
        }
        return works.trim(work, year, height, width);
    }

    /** What was told of a work when it came. */
    public int told(int work, int what) {
        if (!works.has(work)) {
            return BAD;
        }
        switch (what) {
            case 0:
                return works.kinds[work];
            case 1:
                return works.heights[work];
            case 2:
                return works.widths[work];
            case 3:
                return works.lows[work];
            case 4:
                return works.highs[work];
            case 5:
                return works.ofs[work];
            default:
                return BAD;
        }
    }

    /** A work's title or a side of it as in a year. */
    public int then(int work, int year, int what) {
        if (!works.has(work) || !isYear(year)) {
            return BAD;
        }
        switch (what) {
            case 0:
                return works.titleIn(work, year);
            case 1:
                return works.heightIn(work, year);
            case 2:
                return works.widthIn(work, year);
            default:
                return BAD;
        }
    }

    /** Whether a print turns what it shows. */
    public int turned(int work) {
        if (!works.has(work)) {
            return BAD;
        }
        if (works.kinds[work] != PRINT) {
            return CAST;
        }
        return bit(works.isTurned[work]);
    }

    // ---- 2 owners

    /** Adds a holding of a work by an owner, begun in a..b and ended in c..d. */
    public int holding(int work, int owner, int a, int b, int c, int d) {
        if (!isHoldingWell(work, owner, a, b, c, d)) {
            return BAD;
        }
        return owners.add(work, owner, a, b, c, d);
    }

    /** Takes the latest holding back. */
    public int unhold() {
        if (owners.count == 0) {
            return NOT;
        }
        owners.count--;
        return owners.count;
    }

    /** The one owner who surely holds a work in a year. */
    public int owner(int work, int year) {
        if (!works.has(work) || !isYear(year)) {
            return BAD;
        }
        return owners.theOwner(work, year);
    }

    /** All owners who may hold a work in a year. */
    public int may(int work, int year) {
        if (!works.has(work) || !isYear(year)) {
            return BAD;
        }
        return owners.whoMay(work, year);
    }

    /** The first two holdings of a work that quarrel. */
    public int twice(int work) {
        if (!works.has(work)) {
            return BAD;
        }
        return owners.firstTwoAtOnce(work);
    }

    /** The first year in which nobody may hold a work. */
    public int gap(int work, int from) {
        if (!works.has(work) || !isYear(from)) {
            return BAD;
        }
        return owners.firstGap(work, from);
    }

    // ---- 3 mentions

    /** Adds a mention of a work that is not named. */
    public int mention(int kind, int event, int year, int height, int width, int unit, boolean isFramed, int words,
            int owner) {
        boolean isSourceWell = isWithin(kind, 0, MENTION_KINDS - 1) && isWithin(event, 0, EVENTS - 1) && isYear(year);
        boolean isSizeWell = height == 0 && width == 0 || isWithin(height, 1, 6000) && isWithin(width, 1, 6000);
        boolean isRestWell = isWithin(unit, 0, 1) && isBits(words, WORDS) && isWithin(owner, -1, OWNERS - 1);
        if (!isSourceWell || !isSizeWell || !isRestWell) {
            return BAD;
        }
        int added = sources.add(kind, event, year, words, owner);
        if (added >= 0) {
            sources.measure(added, height, width, unit, isFramed);
        }
        return added;
    }

    /** How well a mention fits a work. */
    public int score(int mention, int work) {
        if (!sources.has(mention) || !works.has(work)) {
            return BAD;
        }
        years.reckon();
        return sources.scoreFor(mention, work);
    }

    /** How many works a mention fits. */
    public int rivals(int mention) {
        if (!sources.has(mention)) {
            return BAD;
        }
        years.reckon();
        return sources.countFits(mention);
    }

    /** The work to which a mention is joined. */
    public int joined(int mention) {
        if (!sources.has(mention)) {
            return BAD;
        }
        years.reckon();
        joins.join(sources.events[mention]);
        return joins.workFor(mention);
    }

    /** Whether an event's scores would be less if a mention were not joined to its work. */
    public int sure(int mention) {
        if (!sources.has(mention)) {
            return BAD;
        }
        years.reckon();
        joins.join(sources.events[mention]);
        if (joins.workFor(mention) < 0) {
            return NONE;
        }
        return bit(joins.isSure(joins.seatOf(mention)));
    }

    /** All scores of an event together. */
    public int sum(int event) {
        if (!isWithin(event, 0, EVENTS - 1)) {
            return BAD;
        }
        years.reckon();
        joins.join(event);
        return joins.total;
    }

    /** How many mentions are lost, joined, sure. */
    public int mentions(int what) {
        if (!isWithin(what, 0, 2)) {
            return BAD;
        }
        years.reckon();
        if (what == 0) {
            return sources.countLost();
        }
        return joins.countJoined(what == 2);
    }

    /** How many works two kinds of mentions name for sure, and how many they would let expect. */
    public int counted(int one, int other, int what) {
        boolean areKinds = isWithin(one, 0, MENTION_KINDS - 1) && isWithin(other, 0, MENTION_KINDS - 1);
        if (!areKinds || one == other || !isWithin(what, 0, 4)) {
            return BAD;
        }
        years.reckon();
        long ones = joins.sureWorks(one);
        long others = joins.sureWorks(other);
        int x = Long.bitCount(ones);
        int y = Long.bitCount(others);
        int z = Long.bitCount(ones & others);
        switch (what) {
            case 0:
                return x;
            case 1:
                return y;
            case 2:
                return z;
            case 3:
                return z == 0 ? NONE : x * y / z;
            default:
                return x + y - z;
        }
    }

    // ---- 4 years

    /** Adds a clue: work v was made k years or more behind work w. */
    public int clue(int w, int v, int k) {
        if (!works.has(w) || !works.has(v) || w == v || !isWithin(k, -30, 30)) {
            return BAD;
        }
        return years.add(w, v, k);
    }

    /** Puts a clue in use or out of it. */
    public int use(int clue, boolean is) {
        if (!isWithin(clue, 0, years.count - 1)) {
            return BAD;
        }
        boolean was = years.isUsed[clue];
        years.isUsed[clue] = is;
        return bit(was);
    }

    /** The least or greatest year of a work by clues. */
    public int made(int work, int which) {
        if (!works.has(work) || !isWithin(which, 0, 1)) {
            return BAD;
        }
        years.reckon();
        if (years.isQuarrel) {
            return NOT;
        }
        return which == 0 ? years.lows[work] : years.highs[work];
    }

    /** Whether the clues quarrel. */
    public int quarrel() {
        years.reckon();
        return bit(years.isQuarrel);
    }

    /** How many clues would have to go. */
    public int asides() {
        years.reckon();
        return years.findAsides();
    }

    /** One of the clues that would have to go. */
    public int aside(int i) {
        if (!isWithin(i, 0, Years.MOST_ASIDE - 1)) {
            return BAD;
        }
        years.reckon();
        int found = years.findAsides();
        if (found < 0) {
            return NONE;
        }
        return i < found ? years.asideAt(i) : BAD;
    }

    // ---- 5 the committee, editions

    /** Sets of which owners a member is kin. */
    public int kin(int member, int owners) {
        if (!isWithin(member, 0, MEMBERS - 1) || !isBits(owners, OWNERS)) {
            return BAD;
        }
        int was = committee.kinOf[member];
        committee.kinOf[member] = owners;
        return was;
    }

    /** Puts bytes behind the tape. */
    public int type(long w, int n) {
        if (!isWithin(n, 1, 8) || !Rules.areTypable(w, n)) {
            return BAD;
        }
        return ruling.append(w, n);
    }

    /** Takes the tape as the rules from now on. */
    public int rules() {
        return ruling.readTape();
    }

    /** The rules of a kind as they are. */
    public int rule(int kind, int what) {
        if (!isWithin(kind, 0, KINDS - 1) || !isWithin(what, 0, 2)) {
            return BAD;
        }
        return ruling.inForce[kind][what];
    }

    /** A vote on a work, by the rules, kin and holdings as they are now. */
    public int vote(int work, int day, int fors, int against, boolean isStrike) {
        if (!works.has(work) || !isWithin(day, 0, LAST_DAY)) {
            return BAD;
        }
        if (!isBits(fors, MEMBERS) || !isBits(against, MEMBERS) || (fors & against) != 0) {
            return BAD;
        }
        int barred = committee.kinOfAny(owners.whoMay(work, 1900 + day / 100));
        int voted = (fors | against) & ~barred;
        if (voted == 0) {
            return NOT;
        }
        boolean isPassed = ruling.isPassed(works.kinds[work], fors & ~barred, voted);
        int added = committee.add(work, day, isStrike, isPassed);
        if (added < 0) {
            return FULL;
        }
        committee.noteVoters(added, voted, (fors | against) & barred);
        return bit(isPassed);
    }

    /** What is kept of a vote. */
    public int votes(int i, int what) {
        if (!isWithin(i, 0, committee.count - 1)) {
            return BAD;
        }
        switch (what) {
            case 0:
                return committee.works[i];
            case 1:
                return committee.days[i];
            case 2:
                return bit(committee.isPassed[i]);
            case 3:
                return committee.voted[i];
            case 4:
                return committee.leftOut[i];
            case 5:
                return bit(committee.isStrike[i]);
            default:
                return BAD;
        }
    }

    /** Whether a work was doubtful, in or struck, by the votes up to a day that were known then. */
    public int state(int work, int day, int n) {
        if (!works.has(work) || !isAsOf(day, n)) {
            return BAD;
        }
        committee.reckon(day, n);
        return committee.states[work];
    }

    /** How many works were in that lean on one that was not. */
    public int unsure(int day, int n) {
        if (!isAsOf(day, n)) {
            return BAD;
        }
        committee.reckon(day, n);
        int found = 0;
        for (int work = 0; work < works.count; work++) {
            if (committee.states[work] == IN && leansOnOneNotIn(work)) {
                found++;
            }
        }
        return found;
    }

    /** How many works lean on one. */
    public int leaning(int work) {
        if (!works.has(work)) {
            return BAD;
        }
        int found = 0;
        for (int other = 0; other < works.count; other++) {
            if (works.isLeaning(other, work)) {
                found++;
            }
        }
        return found;
    }

    /** Makes an edition: those in it that have no number get one. */
    public int edition() {
        if (editions.count == Editions.MOST) {
            return FULL;
        }
        years.reckon();
        return editions.publish();
    }

    /** A work's number, with its letter. */
    public int number(int work) {
        if (!works.has(work)) {
            return BAD;
        }
        return editions.numberOf(work);
    }

    /** How many there are of a thing. */
    public int count(int what) {
        switch (what) {
            case 0:
                return works.count;
            case 1:
                return owners.count;
            case 2:
                return sources.count;
            case 3:
                return years.count;
            case 4:
                return committee.count;
            case 5:
                return editions.count;
            case 6:
                return countStates(IN);
            case 7:
                return countStates(STRUCK);
            default:
                return BAD;
        }
    }

    // ---- 6 sheets

    /** Puts a new row on a sheet. */
    public int sheet(int sheet, int lane, int n) {
        if (!isSheet(sheet) || !isLane(lane) || n > Sheets.LONGEST) {
            return BAD;
        }
        if (n < 0) {
            return SIZE;
        }
        sheets.lay(sheet, lane, n);
        return n;
    }

    /** Takes the row off a sheet. */
    public int drop(int sheet) {
        if (!isSheet(sheet)) {
            return BAD;
        }
        if (sheets.lengths[sheet] == Sheets.NOTHING) {
            return NULL;
        }
        int had = sheets.lengths[sheet];
        sheets.lengths[sheet] = Sheets.NOTHING;
        return had;
    }

    /** Sets an item of a sheet. */
    public int item(int sheet, int lane, int i, int v) {
        if (!isSheet(sheet) || !isLane(lane)) {
            return BAD;
        }
        int refusal = sheets.refuse(sheet, lane, i, 1);
        if (refusal != Sheets.FINE) {
            return refusal;
        }
        sheets.rows[sheet][i] = lane == Sheets.SHORTS ? (short) v : v;
        return 1;
    }

    /** Adds the holdings that a sheet tells, all or none. */
    public int holdings(int sheet, int lane, int from, int n) {
        if (!isSheet(sheet) || !isLane(lane) || !isWithin(n, 0, 10)) {
            return BAD;
        }
        int refusal = sheets.refuse(sheet, lane, from, n * Sheets.HOLDING_ITEMS);
        if (refusal != Sheets.FINE) {
            return refusal;
        }
        int[] row = sheets.rows[sheet];
        int end = from + n * Sheets.HOLDING_ITEMS;
        for (int at = from; at < end; at += Sheets.HOLDING_ITEMS) {
            if (!isHoldingWell(row[at], row[at + 1], row[at + 2], row[at + 3], row[at + 4], row[at + 5])) {
                return NOT;
            }
        }
        if (owners.count + n > Owners.MOST) {
            return FULL;
        }
        for (int at = from; at < end; at += Sheets.HOLDING_ITEMS) {
            owners.add(row[at], row[at + 1], row[at + 2], row[at + 3], row[at + 4], row[at + 5]);
        }
        return owners.count;
    }

    // ---- what several calls ask

    private static boolean isWithin(int number, int least, int most) {
        return least <= number && number <= most;
    }

    private static boolean isYear(int year) {
        return isWithin(year, FIRST_YEAR, LAST_YEAR);
    }

    private static boolean isBits(int bits, int most) {
        return bits >>> most == 0;
    }

    private static boolean isTitle(int title) {
        return title != 0 && isBits(title, WORDS);
    }

    private static boolean isSide(int side) {
        return isWithin(side, 10, 5000);
    }

    private static boolean isToldWell(int height, int width, int title, int low, int high) {
        return isSide(height) && isSide(width) && isTitle(title) && isYear(low) && isYear(high) && low <= high;
    }

    private static boolean isSheet(int sheet) {
        return isWithin(sheet, 0, Sheets.MOST - 1);
    }

    private static boolean isLane(int lane) {
        return isWithin(lane, 0, Sheets.LANES - 1);
    }

    private static int bit(boolean is) {
        return is ? 1 : 0;
    }

    private boolean isHoldingWell(int work, int owner, int a, int b, int c, int d) {
        // b and c lie between a and d, so that all four are years if these two are.
        return works.has(work) && isWithin(owner, 0, OWNERS - 1) && isYear(a) && isYear(d) && isWithin(b, a, d)
                && isWithin(c, a, d);
    }

    private boolean isAsOf(int day, int n) {
        return isWithin(day, 0, LAST_DAY) && isWithin(n, 0, committee.count);
    }

    private boolean leansOnOneNotIn(int work) {
        for (int other = 0; other < works.count; other++) {
            if (committee.states[other] != IN && works.isLeaning(work, other)) {
                return true;
            }
        }
        return false;
    }

    private int countStates(int sought) {
        committee.reckonAll();
        int found = 0;
        for (int work = 0; work < works.count; work++) {
            if (committee.states[work] == sought) {
                found++;
            }
        }
        return found;
    }

    /** The works as they were told, with their later titles and cuts. */
    private static final class Works {
        static final int MOST = 40;
        private static final int TITLES = 4;
        private static final int NEVER = LAST_YEAR + 1;

        final int[] kinds = new int[MOST];
        final int[] ofs = new int[MOST];
        final int[] heights = new int[MOST];
        final int[] widths = new int[MOST];
        final int[] lows = new int[MOST];
        final int[] highs = new int[MOST];
        final boolean[] isTurned = new boolean[MOST];
        private final int[][] titles = new int[MOST][TITLES];
        private final int[][] titleYears = new int[MOST][TITLES];
        private final int[] titleCounts = new int[MOST];
        private final int[] cutYears = new int[MOST];
        private final int[] cutHeights = new int[MOST];
        private final int[] cutWidths = new int[MOST];
        int count;

        boolean has(int work) {
            return 0 <= work && work < count;
        }

        boolean isPainted(int work) {
            return kinds[work] == PAINTING || kinds[work] == VERSION;
        }

        boolean isOnPaper(int work) {
            return kinds[work] == DRAWING || kinds[work] == PRINT;
        }

        int add(int kind, int of, int height, int width, int title, int low, int high) {
            if (count == MOST) {
                return FULL;
            }
            kinds[count] = kind;
            ofs[count] = of;
            heights[count] = height;
            widths[count] = width;
            lows[count] = low;
            highs[count] = high;
            titles[count][0] = title;
            titleCounts[count] = 1;
            cutYears[count] = NEVER;
            return count++;
        }

        int addTitle(int work, int year, int title) {
            int has = titleCounts[work];
            // The first title's year is 0: it holds from before all years, so that any may follow.
            if (year <= titleYears[work][has - 1]) {
                return NOT;
            }
            if (has == TITLES) {
                return FULL;
            }
            titles[work][has] = title;
            titleYears[work][has] = year;
            titleCounts[work] = has + 1;
            return has + 1;
        }

        int trim(int work, int year, int height, int width) {
            boolean isMore = height > heights[work] || width > widths[work];
            boolean isLike = height == heights[work] && width == widths[work];
            if (cutYears[work] != NEVER || isMore || isLike) {
                return NOT;
            }
            cutYears[work] = year;
            cutHeights[work] = height;
            cutWidths[work] = width;
            return 1;
        }

        int titleIn(int work, int year) {
            int latest = 0;
            for (int i = 1; i < titleCounts[work]; i++) {
                if (titleYears[work][i] <= year) {
                    latest = i;
                }
            }
            return titles[work][latest];
        }

        int heightIn(int work, int year) {
            return year < cutYears[work] ? heights[work] : cutHeights[work];
        }

        int widthIn(int work, int year) {
            return year < cutYears[work] ? widths[work] : cutWidths[work];
        }

        boolean isLeaning(int work, int on) {
            int under = ofs[work];
            for (int steps = 0; steps < MOST && under >= 0; steps++) {
                if (under == on) {
                    return true;
                }
                under = ofs[under];
            }
            return false;
        }
    }

    /** The holdings: who had which work from when to when, as far as it is told. */
    private static final class Owners {
        static final int MOST = 60;

        private final int[] works = new int[MOST];
        private final int[] holders = new int[MOST];
        private final int[] mayFrom = new int[MOST];
        private final int[] surelyFrom = new int[MOST];
        private final int[] surelyTo = new int[MOST];
        private final int[] mayTo = new int[MOST];
        int count;

        int add(int work, int owner, int a, int b, int c, int d) {
            if (count == MOST) {
                return FULL;
            }
            works[count] = work;
            holders[count] = owner;
            mayFrom[count] = a;
            surelyFrom[count] = b;
            surelyTo[count] = c;
            mayTo[count] = d;
            return count++;
        }

        int theOwner(int work, int year) {
            int found = NONE;
            for (int i = 0; i < count; i++) {
                if (works[i] == work && isWithin(year, surelyFrom[i], surelyTo[i])) {
                    if (found != NONE && found != holders[i]) {
                        return NONE;
                    }
                    found = holders[i];
                }
            }
            return found;
        }

        int whoMay(int work, int year) {
            int bits = 0;
            for (int i = 0; i < count; i++) {
                if (works[i] == work && isWithin(year, mayFrom[i], mayTo[i])) {
                    bits |= 1 << holders[i];
                }
            }
            return bits;
        }

        int firstTwoAtOnce(int work) {
            for (int x = 0; x < count; x++) {
                for (int y = x + 1; y < count; y++) {
                    if (works[x] == work && works[y] == work && areTwoAtOnce(x, y)) {
                        return 100 * x + y;
                    }
                }
            }
            return NONE;
        }

        private boolean areTwoAtOnce(int x, int y) {
            int from = Math.max(surelyFrom[x], surelyFrom[y]);
            int to = Math.min(surelyTo[x], surelyTo[y]);
            // One year alone is how a work is handed over; it takes two to quarrel.
            return holders[x] != holders[y] && from < to;
        }

        int firstGap(int work, int from) {
            for (int year = from; year <= LAST_YEAR; year++) {
                if (whoMay(work, year) == 0) {
                    return year;
                }
            }
            return NONE;
        }
    }

    /** The mentions, and how well each fits a work. The years must be reckoned before a fit is asked. */
    private static final class Mentions {
        static final int MOST = 50;
        private static final int LEAST_SCORE = 4;
        private static final int THINNEST_FRAME = 20, THICKEST_FRAME = 120;

        private final Works works;
        private final Owners owners;
        private final Years dating;
        private final Committee committee;
        final int[] kinds = new int[MOST];
        final int[] events = new int[MOST];
        private final int[] years = new int[MOST];
        private final int[] heights = new int[MOST];
        private final int[] widths = new int[MOST];
        private final int[] units = new int[MOST];
        private final boolean[] isFramed = new boolean[MOST];
        private final int[] words = new int[MOST];
        private final int[] holders = new int[MOST];
        int count;

        Mentions(Works works, Owners owners, Years dating, Committee committee) {
            this.works = works;
            this.owners = owners;
            this.dating = dating;
            this.committee = committee;
        }

        boolean has(int mention) {
            return 0 <= mention && mention < count;
        }

        int add(int kind, int event, int year, int wordBits, int holder) {
            if (count == MOST) {
                return FULL;
            }
            kinds[count] = kind;
            events[count] = event;
            years[count] = year;
            words[count] = wordBits;
            holders[count] = holder;
            return count++;
        }

        void measure(int mention, int height, int width, int unit, boolean isInFrame) {
            heights[mention] = height;
            widths[mention] = width;
            units[mention] = unit;
            isFramed[mention] = isInFrame;
        }

        /** The score; 0 if the mention does not fit. */
        int scoreFor(int mention, int work) {
            int year = years[mention];
            if (year < dating.lows[work] || committee.states[work] == STRUCK || !isSizeFit(mention, work)) {
                return 0;
            }
            int score = 4 * Integer.bitCount(words[mention] & works.titleIn(work, year));
            if (heights[mention] != 0) {
                score += 3;
            }
            if (holders[mention] >= 0) {
                int holder = owners.theOwner(work, year);
                if (holder == holders[mention]) {
                    score += 5;
                } else if (holder != NONE) {
                    return 0;
                }
            }
            return score < LEAST_SCORE ? 0 : score;
        }

        int countFits(int mention) {
            int fits = 0;
            for (int work = 0; work < works.count; work++) {
                if (scoreFor(mention, work) > 0) {
                    fits++;
                }
            }
            return fits;
        }

        int countLost() {
            int lost = 0;
            for (int mention = 0; mention < count; mention++) {
                if (countFits(mention) == 0) {
                    lost++;
                }
            }
            return lost;
        }

        private boolean isSizeFit(int mention, int work) {
            if (heights[mention] == 0) {
                return true;
            }
            int height = works.heightIn(work, years[mention]);
            int width = works.widthIn(work, years[mention]);
            return areSidesFit(mention, height, width)
                    || kinds[mention] == SHOW && areSidesFit(mention, width, height);
        }

        /** All in tenths of a millimetre. */
        private boolean areSidesFit(int mention, int height, int width) {
            int unit = units[mention] == 0 ? 10 : 254;
            int leeway = units[mention] == 0 ? 50 : 127;
            int up = heights[mention] * unit - height * 10;
            int across = widths[mention] * unit - width * 10;
            int most = Math.min(up, across) + leeway;
            int least = Math.max(up, across) - leeway;
            if (!isFramed[mention]) {
                return least <= 0 && 0 <= most;
            }
            // A frame of f millimetres makes each side 20 f tenths more: if the thinnest that is enough is too
            // much, all are.
            int thinnest = Math.max((least + 19) / 20, THINNEST_FRAME);
            return thinnest <= THICKEST_FRAME && 20 * thinnest <= most;
        }
    }

    /** Rows set to columns, no column twice, so that their worths together are most (the Hungarian way). */
    private static final class Matching {
        static final int MOST_ROWS = 8, MOST_COLUMNS = Works.MOST + MOST_ROWS;
        /** More than any worths together. */
        private static final long FAR = 1L << 60;

        final long[][] worths = new long[MOST_ROWS][MOST_COLUMNS];
        private final long[] rowPrices = new long[MOST_ROWS + 1];
        private final long[] columnPrices = new long[MOST_COLUMNS + 1];
        private final long[] slacks = new long[MOST_COLUMNS + 1];
        private final int[] rowIn = new int[MOST_COLUMNS + 1];
        private final int[] cameFrom = new int[MOST_COLUMNS + 1];
        private final boolean[] isReached = new boolean[MOST_COLUMNS + 1];
        int rows;
        int columns;

        /** Sets all rows and answers the worths together. Rows and columns count from 1 inside, 0 is none. */
        long solve() {
            Arrays.fill(rowPrices, 0);
            Arrays.fill(columnPrices, 0);
            Arrays.fill(rowIn, 0);
            for (int row = 1; row <= rows; row++) {
                seat(row);
            }
            long together = 0;
            for (int row = 0; row < rows; row++) {
                int column = columnOf(row);
                together += column < 0 ? 0 : worths[row][column];
            }
            return together;
        }

        int columnOf(int row) {
            for (int column = 1; column <= columns; column++) {
                if (rowIn[column] == row + 1) {
                    return column - 1;
                }
            }
            return NONE;
        }

        /** Finds the cheapest chain of moves that makes room for one more row, and moves along it. */
        private void seat(int row) {
            Arrays.fill(slacks, FAR);
            for (int column = 0; column <= columns; column++) {
                isReached[column] = false;
            }
            rowIn[0] = row;
            int at = 0;
            for (int steps = 0; steps <= columns && rowIn[at] != 0; steps++) {
                at = reachNext(at);
            }
            for (int steps = 0; steps <= columns && at != 0; steps++) {
                int before = cameFrom[at];
                rowIn[at] = rowIn[before];
                at = before;
            }
        }

        private int reachNext(int at) {
            isReached[at] = true;
            int row = rowIn[at];
            int nearest = at;
            long least = FAR;
            for (int column = 1; column <= columns; column++) {
                if (isReached[column]) {
                    continue;
                }
                long slack = -worths[row - 1][column - 1] - rowPrices[row] - columnPrices[column];
                if (slack < slacks[column]) {
                    slacks[column] = slack;
                    cameFrom[column] = at;
                }
                if (slacks[column] < least) {
                    least = slacks[column];
                    nearest = column;
                }
            }
            shiftPrices(least);
            return nearest;
        }

        private void shiftPrices(long by) {
            for (int column = 0; column <= columns; column++) {
                if (isReached[column]) {
                    rowPrices[rowIn[column]] += by;
                    columnPrices[column] -= by;
                } else {
                    slacks[column] -= by;
                }
            }
        }
    }

    /** The mentions of one event, joined to works. The years must be reckoned before. */
    private static final class Joins {
        private static final int BASE = Works.MOST + 1;
        /** BASE to the 8th: more than all that tells like scores apart. */
        private static final long SCORE_WORTH = 7984925229121L;

        private final Works works;
        private final Mentions sources;
        private final Matching matching = new Matching();
        private final int[] seated = new int[Matching.MOST_ROWS];
        private final int[] workOf = new int[Matching.MOST_ROWS];
        int total;

        Joins(Works works, Mentions sources) {
            this.works = works;
            this.sources = sources;
        }

        void join(int event) {
            gather(event);
            // As many columns more as rows, of no worth: there each row finds none.
            matching.columns = works.count + matching.rows;
            long placeWorth = SCORE_WORTH;
            for (int seat = 0; seat < matching.rows; seat++) {
                placeWorth /= BASE;
                weigh(seat, placeWorth);
            }
            total = (int) (matching.solve() / SCORE_WORTH);
            for (int seat = 0; seat < matching.rows; seat++) {
                int column = matching.columnOf(seat);
                boolean isJoined = column >= 0 && matching.worths[seat][column] > 0;
                workOf[seat] = isJoined ? column : NONE;
            }
        }

        private void gather(int event) {
            int found = 0;
            for (int mention = 0; mention < sources.count && found < Matching.MOST_ROWS; mention++) {
                if (sources.events[mention] == event) {
                    seated[found] = mention;
                    found++;
                }
            }
            matching.rows = found;
        }

        /**
         * Of like scores the first mention's least work goes first, then the second's: these are
         * digits of a number below one score's worth, the first mention's the highest.
         */
        private void weigh(int seat, long placeWorth) {
            for (int column = 0; column < matching.columns; column++) {
                long worth = 0;
                if (column < works.count) {
                    int score = sources.scoreFor(seated[seat], column);
                    worth = score == 0 ? 0 : score * SCORE_WORTH + (Works.MOST - column) * placeWorth;
                }
                matching.worths[seat][column] = worth;
            }
        }

        /** Where a mention sits among those that are joined. */
        int seatOf(int mention) {
            for (int seat = 0; seat < matching.rows; seat++) {
                if (seated[seat] == mention) {
                    return seat;
                }
            }
            return NONE;
        }

        int workFor(int mention) {
            int seat = seatOf(mention);
            return seat < 0 ? NONE : workOf[seat];
        }

        boolean isSure(int seat) {
            if (!isWithin(seat, 0, matching.rows - 1) || workOf[seat] < 0) {
                return false;
            }
            long[] row = matching.worths[seat];
            long worth = row[workOf[seat]];
            row[workOf[seat]] = 0;
            long without = matching.solve() / SCORE_WORTH;
            row[workOf[seat]] = worth;
            return without < total;
        }

        int countJoined(boolean isSureOnly) {
            int found = 0;
            for (int event = 0; event < EVENTS; event++) {
                join(event);
                for (int seat = 0; seat < matching.rows; seat++) {
                    if (workOf[seat] >= 0 && (!isSureOnly || isSure(seat))) {
                        found++;
                    }
                }
            }
            return found;
        }

        /** The works, as bits, of which a mention of a kind is sure. */
        long sureWorks(int kind) {
            long bits = 0;
            for (int event = 0; event < EVENTS; event++) {
                join(event);
                for (int seat = 0; seat < matching.rows; seat++) {
                    if (sources.kinds[seated[seat]] == kind && isSure(seat)) {
                        bits |= 1L << workOf[seat];
                    }
                }
            }
            return bits;
        }
    }

    /** The clues, and the years that they leave to each work. */
    private static final class Years {
        static final int MOST = 20, MOST_ASIDE = 3;
        /** More ways than there are to choose 3 of 20. */
        private static final int MOST_CHOICES = 2000;

        private final Works works;
        private final Committee committee;
        private final int[] befores = new int[MOST];
        private final int[] behinds = new int[MOST];
        private final int[] distances = new int[MOST];
        final boolean[] isUsed = new boolean[MOST];
        int count;

        /** By clues; as told if they quarrel. */
        final int[] lows = new int[Works.MOST];
        final int[] highs = new int[Works.MOST];
        boolean isQuarrel;
        private final int[] counting = new int[MOST];
        private int countingCount;
        private final boolean[] isAside = new boolean[MOST];
        private final int[] chosen = new int[MOST_ASIDE];

        Years(Works works, Committee committee) {
            this.works = works;
            this.committee = committee;
        }

        int add(int before, int behind, int distance) {
            if (count == MOST) {
                return FULL;
            }
            befores[count] = before;
            behinds[count] = behind;
            distances[count] = distance;
            isUsed[count] = true;
            return count++;
        }

        /** Reckons states as of all votes, then what the clues that count leave. */
        void reckon() {
            committee.reckonAll();
            countingCount = 0;
            for (int clue = 0; clue < count; clue++) {
                if (isUsed[clue] && !isStruck(befores[clue]) && !isStruck(behinds[clue])) {
                    counting[countingCount] = clue;
                    countingCount++;
                }
            }
            System.arraycopy(works.highs, 0, highs, 0, works.count);
            isQuarrel = !raiseLows();
            if (isQuarrel) {
                System.arraycopy(works.lows, 0, lows, 0, works.count);
            } else {
                lowerHighs();
            }
        }

        private boolean isStruck(int work) {
            return committee.states[work] == STRUCK;
        }

        /** Whether the clues that count, less those aside, hold with the least years from the spans on. */
        private boolean raiseLows() {
            System.arraycopy(works.lows, 0, lows, 0, works.count);
            // A chain is no longer than there are clues; if years still rise then, it runs in a ring.
            for (int round = 0; round <= countingCount; round++) {
                boolean isChanged = false;
                for (int i = 0; i < countingCount; i++) {
                    int clue = counting[i];
                    int behind = behinds[clue];
                    int least = lows[befores[clue]] + distances[clue];
                    if (!isAside[clue] && least > lows[behind]) {
                        if (least > works.highs[behind]) {
                            return false;
                        }
                        lows[behind] = least;
                        isChanged = true;
                    }
                }
                if (!isChanged) {
                    return true;
                }
            }
            return false;
        }

        private void lowerHighs() {
            for (int round = 0; round < countingCount; round++) {
                for (int i = 0; i < countingCount; i++) {
                    int clue = counting[i];
                    int before = befores[clue];
                    highs[before] = Math.min(highs[before], highs[behinds[clue]] - distances[clue]);
                }
            }
        }

        /** How many clues are put aside, which are chosen then; the years are to be reckoned anew behind it. */
        int findAsides() {
            if (!isQuarrel) {
                return 0;
            }
            for (int size = 1; size <= MOST_ASIDE; size++) {
                if (chooseAsides(size)) {
                    return size;
                }
            }
            return NONE;
        }

        int asideAt(int i) {
            return counting[chosen[i]];
        }

        private boolean chooseAsides(int size) {
            if (size > countingCount) {
                return false;
            }
            for (int i = 0; i < size; i++) {
                chosen[i] = i;
            }
            for (int choice = 0; choice < MOST_CHOICES; choice++) {
                if (isFreeWithout(size)) {
                    return true;
                }
                if (!chooseNext(size)) {
                    return false;
                }
            }
            return false;
        }

        private boolean isFreeWithout(int size) {
            putAside(size, true);
            boolean isFree = raiseLows();
            putAside(size, false);
            return isFree;
        }

        private void putAside(int size, boolean is) {
            for (int i = 0; i < size; i++) {
                isAside[asideAt(i)] = is;
            }
        }

        /** Moves on to the next choice, by numbers. */
        private boolean chooseNext(int size) {
            for (int i = size - 1; i >= 0; i--) {
                if (chosen[i] < countingCount - size + i) {
                    chosen[i]++;
                    for (int j = i + 1; j < size; j++) {
                        chosen[j] = chosen[j - 1] + 1;
                    }
                    return true;
                }
            }
            return false;
        }
    }

    /** The rules of each kind, and the tape on which the next ones are typed. */
    private static final class Rules {
        private static final int TAPE = 50, CLAUSES = 4, FAULTS = -20, NO_FAULT = -1;
        private static final int PARTS = 3;
        private static final int[] AT_FIRST = {3, 2, 3};
        private static final int[] WITHOUT = {1, 1, 1};
        private static final String LETTERS = "pvdr";
        /** Of each kind that above it; drawings go by the rules of paintings. */
        private static final int[] ABOVE = {PAINTING, PAINTING, PAINTING, DRAWING};

        /** Of each kind: members, and the share's two numbers. */
        final int[][] inForce = new int[KINDS][PARTS];
        /** As the tape has it; no members: not told. */
        private final int[][] spelled = new int[KINDS][PARTS];
        private final char[] tape = new char[TAPE];
        private int length;
        private int place;
        private int fault;

        Rules() {
            for (int kind = 0; kind < KINDS; kind++) {
                System.arraycopy(AT_FIRST, 0, inForce[kind], 0, PARTS);
            }
        }

        static boolean areTypable(long bytes, int n) {
            for (int i = 0; i < n; i++) {
                if (!isWithin(byteAt(bytes, i), 32, 126)) {
                    return false;
                }
            }
            return true;
        }

        /** The i-th byte from the lowest one on. */
        private static int byteAt(long bytes, int i) {
            return (int) (bytes >>> 8 * i) & 255;
        }

        int append(long bytes, int n) {
            if (length + n > TAPE) {
                return FULL;
            }
            for (int i = n - 1; i >= 0; i--) {
                tape[length] = (char) byteAt(bytes, i);
                length++;
            }
            return length;
        }

        boolean isPassed(int kind, int fors, int voted) {
            int[] held = inForce[kind];
            int voters = Integer.bitCount(voted);
            return voters >= held[0] && Integer.bitCount(fors) * held[2] >= voters * held[1];
        }

        int readTape() {
            place = 0;
            fault = NO_FAULT;
            for (int kind = 0; kind < KINDS; kind++) {
                spelled[kind][0] = 0;
            }
            int clauses = readClauses();
            length = 0;
            if (fault != NO_FAULT) {
                return FAULTS - fault;
            }
            enforce();
            return clauses;
        }

        private void enforce() {
            for (int kind = 0; kind < KINDS; kind++) {
                int[] from = spelled[kind];
                if (from[0] == 0) {
                    from = kind == PAINTING ? WITHOUT : inForce[ABOVE[kind]];
                }
                System.arraycopy(from, 0, inForce[kind], 0, PARTS);
            }
        }

        private int readClauses() {
            for (int clauses = 1; clauses <= CLAUSES; clauses++) {
                readClause();
                skipBlanks();
                if (fault != NO_FAULT || place == length) {
                    return clauses;
                }
                if (clauses == CLAUSES) {
                    blame(place);
                }
                readSign(';');
            }
            return CLAUSES;
        }

        /** Behind a fault the reading goes on, but only the first fault is kept. */
        private void readClause() {
            int kind = readKind();
            int members = readNumber(1, MEMBERS);
            readSign(',');
            int part = readNumber(1, 9);
            readSign('/');
            int whole = readNumber(part, 9);
            if (kind >= 0) {
                spelled[kind][0] = members;
                spelled[kind][1] = part;
                spelled[kind][2] = whole;
            }
        }

        private int readKind() {
            skipBlanks();
            int kind = place < length ? LETTERS.indexOf(tape[place]) : -1;
            if (kind < 0) {
                blame(place);
            } else {
                place++;
            }
            return kind;
        }

        private void readSign(char sign) {
            skipBlanks();
            if (place < length && tape[place] == sign) {
                place++;
            } else {
                blame(place);
            }
        }

        /** Where no digit stands the number is 0, which none may be. */
        private int readNumber(int least, int most) {
            skipBlanks();
            int start = place;
            int number = 0;
            while (place < length && isWithin(tape[place], '0', '9')) {
                // Kept below 100: more is never allowed, and a long one must not wrap around.
                number = Math.min(10 * number + tape[place] - '0', 99);
                place++;
            }
            if (!isWithin(number, least, most)) {
                blame(start);
            }
            return number;
        }

        private void skipBlanks() {
            while (place < length && tape[place] == ' ') {
                place++;
            }
        }

        private void blame(int where) {
            if (fault == NO_FAULT) {
                fault = where;
            }
        }
    }

    /** The members' kin, the votes, and what the votes make of each work. */
    private static final class Committee {
        static final int MOST = 60;

        final int[] kinOf = new int[MEMBERS];
        final int[] works = new int[MOST];
        final int[] days = new int[MOST];
        final boolean[] isPassed = new boolean[MOST];
        final boolean[] isStrike = new boolean[MOST];
        final int[] voted = new int[MOST];
        final int[] leftOut = new int[MOST];
        int count;

        /** Of each work 0 doubtful, IN or STRUCK, as last reckoned. */
        final int[] states = new int[Works.MOST];
        private final int[] decidedOn = new int[Works.MOST];

        int kinOfAny(int owners) {
            int members = 0;
            for (int member = 0; member < MEMBERS; member++) {
                if ((kinOf[member] & owners) != 0) {
                    members |= 1 << member;
                }
            }
            return members;
        }

        int add(int work, int day, boolean isToStrike, boolean isDone) {
            if (count == MOST) {
                return FULL;
            }
            works[count] = work;
            days[count] = day;
            isStrike[count] = isToStrike;
            isPassed[count] = isDone;
            return count++;
        }

        void noteVoters(int i, int voters, int barred) {
            voted[i] = voters;
            leftOut[i] = barred;
        }

        void reckonAll() {
            reckon(LAST_DAY, count);
        }

        void reckon(int day, int n) {
            Arrays.fill(states, 0);
            Arrays.fill(decidedOn, 0);
            for (int i = 0; i < n; i++) {
                int work = works[i];
                if (isPassed[i] && days[i] <= day && days[i] >= decidedOn[work]) {
                    states[work] = isStrike[i] ? STRUCK : IN;
                    decidedOn[work] = days[i];
                }
            }
        }
    }

    /** The numbers that works got by editions. The years must be reckoned before one is published. */
    private static final class Editions {
        static final int MOST = 9;
        private static final int LETTERS = 26;

        private final Works works;
        private final Years years;
        private final Committee committee;
        private final int[] numbers = new int[Works.MOST];
        private final int[] letters = new int[Works.MOST];
        /** Of each number the letters that were given with it. */
        private final int[] given = new int[Works.MOST + 1];
        private final int[] order = new int[Works.MOST];
        int count;

        Editions(Works works, Years years, Committee committee) {
            this.works = works;
            this.years = years;
            this.committee = committee;
            Arrays.fill(numbers, NONE);
        }

        int numberOf(int work) {
            return numbers[work] == NONE ? NONE : 100 * numbers[work] + letters[work];
        }

        int publish() {
            int listed = sortThoseIn();
            int got = 0;
            int ahead = 0;
            for (int i = 0; i < listed; i++) {
                int work = order[i];
                if (numbers[work] == NONE && give(work, ahead)) {
                    got++;
                }
                if (numbers[work] != NONE) {
                    ahead = numbers[work];
                }
            }
            count++;
            return got;
        }

        private boolean give(int work, int ahead) {
            if (count == 0) {
                numbers[work] = ahead + 1;
                return true;
            }
            if (given[ahead] == LETTERS) {
                return false;
            }
            given[ahead]++;
            numbers[work] = ahead;
            letters[work] = given[ahead];
            return true;
        }

        /** Puts all that are in into the order, by the middles of their years; of like ones the lesser first. */
        private int sortThoseIn() {
            int listed = 0;
            for (int work = 0; work < works.count; work++) {
                if (committee.states[work] != IN) {
                    continue;
                }
                int at = listed;
                while (at > 0 && middle(order[at - 1]) > middle(work)) {
                    order[at] = order[at - 1];
                    at--;
                }
                order[at] = work;
                listed++;
            }
            return listed;
        }

        private int middle(int work) {
            return years.lows[work] + years.highs[work];
        }
    }

    /** Sheets with nothing, or a row of a lane, on them. */
    private static final class Sheets {
        static final int MOST = 4, LANES = 3, SHORTS = 0, LONGEST = 60;
        static final int NOTHING = -1, FINE = 0, HOLDING_ITEMS = 6;

        /** Items are set from ints alone, so that ints can stand for those of any lane. */
        final int[][] rows = new int[MOST][LONGEST];
        private final int[] laneOf = new int[MOST];
        final int[] lengths = new int[MOST];

        Sheets() {
            Arrays.fill(lengths, NOTHING);
        }

        void lay(int sheet, int lane, int n) {
            Arrays.fill(rows[sheet], 0);
            laneOf[sheet] = lane;
            lengths[sheet] = n;
        }

        /** Why n items from one on can't be had from a sheet taken as of a lane; FINE if they can. */
        int refuse(int sheet, int lane, int from, int n) {
            if (lengths[sheet] == NOTHING) {
                return NULL;
            }
            if (laneOf[sheet] != lane) {
                return CAST;
            }
            return from < 0 || from > lengths[sheet] - n ? INDEX : FINE;
        }
    }
}
