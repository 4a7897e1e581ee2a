/** Promises 1 to 9: works, their kinds, titles and cuts. */
public final class WorksTest {
    private static final int ALL_WORDS = (1 << 30) - 1;

    public static void main(String[] args) {
        newObject();
        works();
        versions();
        prints();
        titles();
        cuts();
        toldAndThen();
        fullOfWorks();
        Checks.end();
    }

    private static void newObject() {
        LifeList x = new LifeList();
        for (int what = 0; what < 8; what++) {
            Checks.due("count of a new object, " + what, x.count(what), 0);
        }
        for (int kind = 0; kind < 4; kind++) {
            Checks.due("first rule 0", x.rule(kind, 0), 3);
            Checks.due("first rule 1", x.rule(kind, 1), 2);
            Checks.due("first rule 2", x.rule(kind, 2), 3);
        }
        for (int sheet = 0; sheet < 4; sheet++) {
            Checks.due("first sheet", x.drop(sheet), LifeList.NULL);
        }
        Checks.due("told of no work", x.told(0, 0), LifeList.BAD);
        Checks.due("no edition, no number", x.number(0), LifeList.BAD);
        Checks.due("nothing quarrels", x.quarrel(), 0);
        Checks.due("nothing is put aside", x.asides(), 0);
        Checks.due("no sum", x.sum(0), 0);
        Checks.due("no mentions lost", x.mentions(0), 0);
        Checks.due("objects do not share", new LifeList().count(0), 0);
    }

    private static void works() {
        LifeList x = new LifeList();
        Checks.due("least sizes, title, span", x.work(0, 10, 10, 1, 1800, 1800), 0);
        Checks.due("greatest", x.work(2, 5000, 5000, ALL_WORDS, 1999, 1999), 1);
        int[] kinds = {-1, 1, 3, 4};
        for (int kind : kinds) {
            Checks.due("kind " + kind, x.work(kind, 100, 100, 1, 1850, 1851), LifeList.BAD);
        }
        Checks.due("height 9", x.work(0, 9, 10, 1, 1850, 1851), LifeList.BAD);
        Checks.due("height 5001", x.work(0, 5001, 10, 1, 1850, 1851), LifeList.BAD);
        Checks.due("width 9", x.work(0, 10, 9, 1, 1850, 1851), LifeList.BAD);
        Checks.due("width 5001", x.work(0, 10, 5001, 1, 1850, 1851), LifeList.BAD);
        Checks.due("no title", x.work(0, 10, 10, 0, 1850, 1851), LifeList.BAD);
        Checks.due("word 30", x.work(0, 10, 10, 1 << 30, 1850, 1851), LifeList.BAD);
        Checks.due("word 31", x.work(0, 10, 10, Integer.MIN_VALUE, 1850, 1851), LifeList.BAD);
        Checks.due("low 1799", x.work(0, 10, 10, 1, 1799, 1851), LifeList.BAD);
        Checks.due("high 2000", x.work(0, 10, 10, 1, 1850, 2000), LifeList.BAD);
        Checks.due("high below low", x.work(0, 10, 10, 1, 1851, 1850), LifeList.BAD);
        Checks.due("refusals add nothing", x.count(0), 2);
    }

    private static void versions() {
        LifeList x = new LifeList();
        Checks.due("version of nothing", x.version(0, 10, 10, 1, 1850, 1851), LifeList.BAD);
        x.work(0, 100, 100, 1, 1850, 1851);
        x.work(2, 100, 100, 1, 1850, 1851);
        Checks.due("version of a painting", x.version(0, 10, 10, 1, 1850, 1851), 2);
        Checks.due("version of a version", x.version(2, 10, 10, 1, 1850, 1851), 3);
        Checks.due("version of a drawing", x.version(1, 10, 10, 1, 1850, 1851), LifeList.CAST);
        Checks.due("print", x.print(0, true, 10, 10, 1, 1850, 1851), 4);
        Checks.due("version of a print", x.version(4, 10, 10, 1, 1850, 1851), LifeList.CAST);
        Checks.due("BAD ahead of CAST", x.version(1, 9, 10, 1, 1850, 1851), LifeList.BAD);
        Checks.due("version of -1", x.version(-1, 10, 10, 1, 1850, 1851), LifeList.BAD);
        Checks.due("version of one to come", x.version(5, 10, 10, 1, 1850, 1851), LifeList.BAD);
        Checks.due("a version's kind", x.told(3, 0), 1);
        Checks.due("a version is of", x.told(3, 5), 2);
    }

    private static void prints() {
        LifeList x = new LifeList();
        Checks.due("print of nothing", x.print(0, true, 10, 10, 1, 1850, 1851), LifeList.BAD);
        x.work(0, 100, 100, 1, 1850, 1851);
        x.version(0, 100, 100, 1, 1850, 1851);
        x.work(2, 100, 100, 1, 1850, 1851);
        for (int of = 0; of < 4; of++) {
            Checks.due("print of any", x.print(of, of % 2 == 0, 10, 10, 1, 1850, 1851), 3 + of);
            Checks.due("its kind", x.told(3 + of, 0), 3);
            Checks.due("it is of", x.told(3 + of, 5), of);
            Checks.due("it turns", x.turned(3 + of), of % 2 == 0 ? 1 : 0);
        }
        Checks.due("a wrong print", x.print(0, true, 10, 10, 0, 1850, 1851), LifeList.BAD);
        for (int work = 0; work < 3; work++) {
            Checks.due("only prints turn", x.turned(work), LifeList.CAST);
        }
        Checks.due("turned of nothing", x.turned(7), LifeList.BAD);
        Checks.due("turned of -1", x.turned(-1), LifeList.BAD);
    }

    private static void titles() {
        LifeList x = new LifeList();
        x.work(0, 100, 100, 1, 1850, 1851);
        x.work(0, 100, 100, 1, 1850, 1851);
        Checks.due("no such work", x.retitle(2, 1900, 2), LifeList.BAD);
        Checks.due("year 1799", x.retitle(0, 1799, 2), LifeList.BAD);
        Checks.due("year 2000", x.retitle(0, 2000, 2), LifeList.BAD);
        Checks.due("no words", x.retitle(0, 1900, 0), LifeList.BAD);
        Checks.due("word 30", x.retitle(0, 1900, 1 << 30), LifeList.BAD);
        Checks.due("the first year may be any", x.retitle(1, 1800, 2), 2);
        Checks.due("it holds from then on", x.then(1, 1800, 0), 2);
        Checks.due("a second title", x.retitle(0, 1900, 2), 2);
        Checks.due("the same year", x.retitle(0, 1900, 4), LifeList.NOT);
        Checks.due("a year ahead", x.retitle(0, 1899, 4), LifeList.NOT);
        Checks.due("a third", x.retitle(0, 1901, 4), 3);
        Checks.due("a fourth", x.retitle(0, 1999, 8), 4);
        Checks.due("NOT ahead of FULL", x.retitle(0, 1999, 16), LifeList.NOT);
        Checks.due("BAD ahead of NOT", x.retitle(0, 1900, 0), LifeList.BAD);
        int[] years = {1800, 1899, 1900, 1901, 1998, 1999};
        int[] due = {1, 1, 2, 4, 4, 8};
        for (int i = 0; i < years.length; i++) {
            Checks.due("title of " + years[i], x.then(0, years[i], 0), due[i]);
        }
        x.work(0, 100, 100, 1, 1850, 1851);
        x.retitle(2, 1850, 2);
        x.retitle(2, 1851, 4);
        x.retitle(2, 1852, 8);
        Checks.due("a fifth", x.retitle(2, 1853, 16), LifeList.FULL);
        Checks.due("and it is not there", x.then(2, 1999, 0), 8);
    }

    private static void cuts() {
        LifeList x = new LifeList();
        x.work(0, 100, 100, 1, 1850, 1851);
        x.version(0, 100, 100, 1, 1850, 1851);
        x.work(2, 100, 80, 1, 1850, 1851);
        x.print(2, false, 100, 80, 1, 1850, 1851);
        Checks.due("a painting", x.cut(0, 1900, 50, 50), LifeList.CAST);
        Checks.due("a version", x.cut(1, 1900, 50, 50), LifeList.CAST);
        Checks.due("BAD ahead of CAST", x.cut(0, 2000, 50, 50), LifeList.BAD);
        Checks.due("no work", x.cut(4, 1900, 50, 50), LifeList.BAD);
        Checks.due("height 9", x.cut(2, 1900, 9, 50), LifeList.BAD);
        Checks.due("width 9", x.cut(2, 1900, 50, 9), LifeList.BAD);
        Checks.due("height 5001", x.cut(2, 1900, 5001, 50), LifeList.BAD);
        Checks.due("width 5001", x.cut(2, 1900, 50, 5001), LifeList.BAD);
        Checks.due("neither is less", x.cut(2, 1900, 100, 80), LifeList.NOT);
        Checks.due("height is more", x.cut(2, 1900, 101, 79), LifeList.NOT);
        Checks.due("width is more", x.cut(2, 1900, 99, 81), LifeList.NOT);
        Checks.due("one side is less", x.cut(2, 1900, 100, 79), 1);
        Checks.due("twice", x.cut(2, 1950, 50, 50), LifeList.NOT);
        Checks.due("a print, both sides", x.cut(3, 1800, 10, 10), 1);
        Checks.due("width ahead", x.then(2, 1899, 2), 80);
        Checks.due("width from then on", x.then(2, 1900, 2), 79);
        Checks.due("height stays", x.then(2, 1999, 1), 100);
        Checks.due("print's height", x.then(3, 1800, 1), 10);
        Checks.due("sizes as told stay", x.told(3, 1), 100);
        Checks.due("sizes as told stay", x.told(3, 2), 80);
    }

    private static void toldAndThen() {
        LifeList x = new LifeList();
        x.work(2, 123, 456, 5, 1860, 1870);
        int[] due = {2, 123, 456, 1860, 1870, LifeList.NONE};
        for (int what = 0; what < due.length; what++) {
            Checks.due("told " + what, x.told(0, what), due[what]);
        }
        Checks.due("told -1", x.told(0, -1), LifeList.BAD);
        Checks.due("told 6", x.told(0, 6), LifeList.BAD);
        Checks.due("told of -1", x.told(-1, 0), LifeList.BAD);
        Checks.due("told of 1", x.told(1, 0), LifeList.BAD);
        Checks.due("then ahead of its span", x.then(0, 1800, 0), 5);
        Checks.due("then height", x.then(0, 1999, 1), 123);
        Checks.due("then width", x.then(0, 1999, 2), 456);
        Checks.due("then -1", x.then(0, 1900, -1), LifeList.BAD);
        Checks.due("then 3", x.then(0, 1900, 3), LifeList.BAD);
        Checks.due("then 1799", x.then(0, 1799, 0), LifeList.BAD);
        Checks.due("then 2000", x.then(0, 2000, 0), LifeList.BAD);
        Checks.due("then of 1", x.then(1, 1900, 0), LifeList.BAD);
    }

    private static void fullOfWorks() {
        LifeList x = new LifeList();
        for (int i = 0; i < 40; i++) {
            Checks.due("work " + i, x.work(i % 2 * 2, 100, 100, 1, 1850, 1851), i);
        }
        Checks.due("a 41st work", x.work(0, 100, 100, 1, 1850, 1851), LifeList.FULL);
        Checks.due("a 41st version", x.version(0, 100, 100, 1, 1850, 1851), LifeList.FULL);
        Checks.due("CAST ahead of FULL", x.version(1, 100, 100, 1, 1850, 1851), LifeList.CAST);
        Checks.due("a 41st print", x.print(0, true, 100, 100, 1, 1850, 1851), LifeList.FULL);
        Checks.due("BAD ahead of FULL", x.work(1, 100, 100, 1, 1850, 1851), LifeList.BAD);
        Checks.due("40 are there", x.count(0), 40);
        Checks.due("the last is told", x.told(39, 0), 2);
    }
}
