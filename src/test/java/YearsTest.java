/** Promises 24 to 29: clues, the years they leave, and which quarrel. */
public final class YearsTest {
    public static void main(String[] args) {
        wrongClues();
        chains();
        rings();
        outOfUse();
        struckWorks();
        asidesByNumbers();
        asidesFarBehind();
        amongTwenty();
        moreThanThree();
        Checks.end();
    }

    private static LifeList withWorks(int n, int low, int high) {
        LifeList x = new LifeList();
        for (int i = 0; i < n; i++) {
            x.work(0, 300, 300, 1, low, high);
        }
        return x;
    }

    private static void wrongClues() {
        LifeList x = withWorks(2, 1850, 1900);
        Checks.due("w -1", x.clue(-1, 0, 1), LifeList.BAD);
        Checks.due("v 2", x.clue(0, 2, 1), LifeList.BAD);
        Checks.due("one work", x.clue(1, 1, 1), LifeList.BAD);
        Checks.due("k -31", x.clue(0, 1, -31), LifeList.BAD);
        Checks.due("k 31", x.clue(0, 1, 31), LifeList.BAD);
        Checks.due("none came", x.count(3), 0);
        Checks.due("use of none", x.use(0, true), LifeList.BAD);
        for (int i = 0; i < 20; i++) {
            Checks.due("clue", x.clue(i % 2, 1 - i % 2, i % 2 == 0 ? 30 : -30), i);
        }
        Checks.due("a 21st", x.clue(0, 1, 1), LifeList.FULL);
        Checks.due("BAD ahead of FULL", x.clue(0, 0, 1), LifeList.BAD);
        Checks.due("use -1", x.use(-1, true), LifeList.BAD);
        Checks.due("use 20", x.use(20, true), LifeList.BAD);
        Checks.due("made of 2", x.made(2, 0), LifeList.BAD);
        Checks.due("made, which 2", x.made(0, 2), LifeList.BAD);
        Checks.due("made, which -1", x.made(0, -1), LifeList.BAD);
        Checks.due("exactly 30 apart", x.quarrel(), 0);
        Checks.due("high", x.made(0, 1), 1870);
        Checks.due("low", x.made(1, 0), 1880);
    }

    private static void chains() {
        LifeList x = withWorks(21, 1850, 1900);
        // Told from the last to the first, so that a year goes but one step a round.
        for (int i = 19; i >= 0; i--) {
            x.clue(i, i + 1, 2);
        }
        Checks.due("no quarrel", x.quarrel(), 0);
        for (int i = 0; i <= 20; i++) {
            Checks.due("low " + i, x.made(i, 0), 1850 + 2 * i);
            Checks.due("high " + i, x.made(i, 1), 1860 + 2 * i);
        }
        LifeList y = withWorks(2, 1850, 1860);
        y.clue(0, 1, 10);
        Checks.due("the whole span", y.made(1, 0), 1860);
        Checks.due("the whole span", y.made(0, 1), 1850);
        y.clue(0, 1, 11);
        Checks.due("a year more", y.quarrel(), 1);
        Checks.due("NOT", y.made(0, 0), LifeList.NOT);
        Checks.due("BAD ahead of NOT", y.made(0, 2), LifeList.BAD);
    }

    private static void rings() {
        LifeList x = withWorks(3, 1800, 1999);
        x.clue(0, 1, 1);
        x.clue(1, 2, 1);
        x.clue(2, 0, -2);
        Checks.due("a ring of 0", x.quarrel(), 0);
        Checks.due("low", x.made(1, 0), 1801);
        x.clue(2, 0, -1);
        Checks.due("a ring of 1", x.quarrel(), 1);
        Checks.due("one is put aside", x.asides(), 1);
        Checks.due("the first that is enough", x.aside(0), 0);
        Checks.due("no second", x.aside(1), LifeList.BAD);
    }

    private static void outOfUse() {
        LifeList x = withWorks(2, 1850, 1860);
        x.clue(0, 1, 20);
        Checks.due("was in use", x.use(0, true), 1);
        Checks.due("it quarrels", x.quarrel(), 1);
        Checks.due("was in use", x.use(0, false), 1);
        Checks.due("was not", x.use(0, false), 0);
        Checks.due("no quarrel", x.quarrel(), 0);
        Checks.due("nothing aside", x.asides(), 0);
        Checks.due("nothing aside", x.aside(0), LifeList.BAD);
        Checks.due("low", x.made(1, 0), 1850);
        Checks.due("was not", x.use(0, true), 0);
        Checks.due("it quarrels again", x.quarrel(), 1);
    }

    private static void struckWorks() {
        LifeList x = withWorks(3, 1850, 1900);
        x.clue(0, 1, 10);
        x.clue(1, 2, 10);
        Checks.due("low", x.made(2, 0), 1870);
        x.vote(1, 5, 7, 0, true);
        Checks.due("both do not count", x.made(2, 0), 1850);
        Checks.due("nor for its high", x.made(0, 1), 1900);
        x.vote(1, 5, 7, 0, false);
        Checks.due("they count again", x.made(2, 0), 1870);
    }

    private static void asidesByNumbers() {
        LifeList x = withWorks(6, 1850, 1860);
        x.clue(0, 1, 1);
        x.clue(0, 1, 30);
        x.clue(2, 3, 1);
        x.clue(2, 3, 30);
        x.clue(4, 5, 30);
        Checks.due("three", x.asides(), 3);
        Checks.due("1", x.aside(0), 1);
        Checks.due("3", x.aside(1), 3);
        Checks.due("4", x.aside(2), 4);
        Checks.due("-1", x.aside(-1), LifeList.BAD);
        Checks.due("3", x.aside(3), LifeList.BAD);
        x.use(1, false);
        Checks.due("two", x.asides(), 2);
        Checks.due("3", x.aside(0), 3);
        Checks.due("4", x.aside(1), 4);
        Checks.due("no third", x.aside(2), LifeList.BAD);
        Checks.due("asking puts nothing aside", x.quarrel(), 1);
    }

    /** One to three of eight clues, each set of three in turn. */
    private static void asidesFarBehind() {
        for (int i = 0; i < 8; i++) {
            for (int j = i; j < 8; j++) {
                for (int k = j; k < 8; k++) {
                    LifeList x = withWorks(2, 1850, 1860);
                    for (int clue = 0; clue < 8; clue++) {
                        x.clue(0, 1, clue == i || clue == j || clue == k ? 11 : 10);
                    }
                    int[] due = java.util.stream.IntStream.of(i, j, k).distinct().toArray();
                    Checks.due("asides " + i + j + k, x.asides(), due.length);
                    for (int at = 0; at < due.length; at++) {
                        Checks.due("aside " + i + j + k, x.aside(at), due[at]);
                    }
                }
            }
        }
    }

    private static void amongTwenty() {
        for (int wrong = 1; wrong <= 5; wrong++) {
            LifeList x = withWorks(2, 1850, 1860);
            for (int clue = 0; clue < 20; clue++) {
                x.clue(0, 1, clue < 20 - wrong ? 10 : 11);
            }
            Checks.due("the last " + wrong, x.asides(), wrong > 3 ? LifeList.NONE : wrong);
            for (int i = 0; i < 3; i++) {
                int due = wrong > 3 ? LifeList.NONE : i < wrong ? 20 - wrong + i : LifeList.BAD;
                Checks.due("of the last " + wrong, x.aside(i), due);
            }
        }
    }

    private static void moreThanThree() {
        LifeList x = withWorks(2, 1850, 1860);
        for (int i = 0; i < 4; i++) {
            x.clue(0, 1, 11);
        }
        Checks.due("four", x.asides(), LifeList.NONE);
        for (int i = 0; i < 3; i++) {
            Checks.due("none to tell", x.aside(i), LifeList.NONE);
        }
        Checks.due("BAD ahead of NONE", x.aside(-1), LifeList.BAD);
        Checks.due("there is never a fourth", x.aside(3), LifeList.BAD);
        x.use(2, false);
        Checks.due("seen at once", x.aside(2), 3);
        Checks.due("three", x.asides(), 3);
        Checks.due("0", x.aside(0), 0);
        Checks.due("1", x.aside(1), 1);
        Checks.due("3", x.aside(2), 3);
    }
}
