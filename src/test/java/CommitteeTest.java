/** Promises 30 to 38: kin, the text of the rules, votes, and what they make of works. */
public final class CommitteeTest {
    public static void main(String[] args) {
        kin();
        typing();
        goodRules();
        faults();
        wrongVotes();
        passing();
        rulesOfKinds();
        leftOut();
        keptVotes();
        states();
        leaning();
        unsure();
        fullOfVotes();
        Checks.end();
    }

    private static void kin() {
        LifeList x = new LifeList();
        Checks.due("member -1", x.kin(-1, 1), LifeList.BAD);
        Checks.due("member 8", x.kin(8, 1), LifeList.BAD);
        Checks.due("owner 20", x.kin(0, 1 << 20), LifeList.BAD);
        Checks.due("owners -1", x.kin(0, -1), LifeList.BAD);
        Checks.due("none at first", x.kin(0, (1 << 20) - 1), 0);
        Checks.due("what it was", x.kin(0, 2), (1 << 20) - 1);
        Checks.due("what it was", x.kin(0, 0), 2);
        Checks.due("another", x.kin(7, 0), 0);
    }

    private static void typing() {
        LifeList x = new LifeList();
        Checks.due("n 0", x.type('p', 0), LifeList.BAD);
        Checks.due("n 9", x.type(0x7070707070707070L, 9), LifeList.BAD);
        Checks.due("n -1", x.type('p', -1), LifeList.BAD);
        Checks.due("byte 31", x.type(31, 1), LifeList.BAD);
        Checks.due("byte 127", x.type(127, 1), LifeList.BAD);
        Checks.due("byte 255", x.type(-1L, 1), LifeList.BAD);
        Checks.due("a byte 0 ahead", x.type('p', 2), LifeList.BAD);
        Checks.due("bytes above do not count", x.type(-256L | 'p', 1), 1);
        Checks.due("byte 126", x.type(126, 1), 2);
        Checks.due("byte 32", x.type(32, 1), 3);
        Checks.due("the second can't stand", x.rules(), -21);
        Checks.due("empty then", x.type('p', 1), 1);
        for (int i = 1; i < 6; i++) {
            Checks.due("eight more", Checks.type(x, "ABCDEFGH"), 1 + 8 * i);
        }
        Checks.due("49", Checks.type(x, "IJKLMNOP"), 49);
        Checks.due("two more are too many", x.type(0x4141, 2), LifeList.FULL);
        Checks.due("BAD ahead of FULL", x.type(0x4101, 2), LifeList.BAD);
        Checks.due("50", x.type('A', 1), 50);
        Checks.due("51", x.type('A', 1), LifeList.FULL);
        Checks.due("its second byte", x.rules(), -21);
    }

    private static void rulesDue(LifeList x, String text, int answer, int... due) {
        Checks.type(x, text);
        Checks.due("rules " + text, x.rules(), answer);
        for (int kind = 0; kind < 4; kind++) {
            for (int what = 0; what < 3; what++) {
                Checks.due(text + " rule " + kind + " " + what, x.rule(kind, what), due[3 * kind + what]);
            }
        }
    }

    private static void goodRules() {
        LifeList x = new LifeList();
        rulesDue(x, "p8,1/9", 1, 8, 1, 9, 8, 1, 9, 8, 1, 9, 8, 1, 9);
        rulesDue(x, "v2,1/2", 1, 1, 1, 1, 2, 1, 2, 1, 1, 1, 1, 1, 1);
        rulesDue(x, "d2,1/2", 1, 1, 1, 1, 1, 1, 1, 2, 1, 2, 2, 1, 2);
        rulesDue(x, "r2,1/2", 1, 1, 1, 1, 1, 1, 1, 1, 1, 1, 2, 1, 2);
        rulesDue(x, "r1,1/2;d2,2/3;v3,3/4;p4,4/5", 4, 4, 4, 5, 3, 3, 4, 2, 2, 3, 1, 1, 2);
        rulesDue(x, "p1,1/2;p5,5/5;d7,3/9", 3, 5, 5, 5, 5, 5, 5, 7, 3, 9, 7, 3, 9);
        rulesDue(x, "  p  3 , 2 / 3  ;  v 1,1/1  ", 2, 3, 2, 3, 1, 1, 1, 3, 2, 3, 3, 2, 3);
        rulesDue(x, "d1,1/2;d2,1/2;d3,1/2;d4,1/2", 4, 1, 1, 1, 1, 1, 1, 4, 1, 2, 4, 1, 2);
        Checks.due("kind -1", x.rule(-1, 0), LifeList.BAD);
        Checks.due("kind 4", x.rule(4, 0), LifeList.BAD);
        Checks.due("what -1", x.rule(0, -1), LifeList.BAD);
        Checks.due("what 3", x.rule(0, 3), LifeList.BAD);
    }

    private static void faults() {
        String[] texts = {"", "   ", "x", "  x", "P3,2/3", "p", "p ", "p,", "p3", "p3;", "p3,", "p3,2", "p3,2/",
            "p3,2/3;", "p3,2/3; ", "p3,2/3;;", "p3,2/3,", "p3,2/3 v", "p3,2/3v3,2/3", "p0,2/3", "p9,2/3",
            "p12,2/3", "p1 2,2/3", "p3,10/9", "p3,1/10", "p3,0/1", "p3,1/0", "p3,3/2", "p3, 3 / 2", "p3 ,2/3 3",
            "p-3,2/3", "p3.2/3", "p3,2:3", "p99999999999999999999,1/1", "p4294967297,1/1",
            "p1,1/1;p1,1/1;p1,1/1;p1,1/1;", "p1,1/1;p1,1/1;p1,1/1;p1,1/1 ;p1,1/1", "p1,1/1;p1,1/1;p1,1/1;p1,1/1p",
            "q0,9/1", "3,2/3", ";p3,2/3", "p3,2/3;3,2/3", "pp3,2/3"};
        int[] places = {0, 3, 0, 2, 0, 1, 2, 1, 2, 2, 3, 4, 5,
            7, 8, 7, 6, 7, 6, 1, 1,
            1, 3, 3, 5, 3, 5, 5, 8, 8,
            1, 2, 4, 1, 1,
            27, 28, 27,
            0, 0, 0, 7, 1};
        LifeList x = new LifeList();
        rulesDue(x, "p4,1/2", 1, 4, 1, 2, 4, 1, 2, 4, 1, 2, 4, 1, 2);
        for (int i = 0; i < texts.length; i++) {
            Checks.type(x, texts[i]);
            Checks.due("fault of '" + texts[i] + "'", x.rules(), -20 - places[i]);
            Checks.due("the tape is empty then", x.rules(), -20);
            Checks.due("rules stay", x.rule(0, 0), 4);
            Checks.due("rules stay", x.rule(3, 2), 2);
        }
    }

    private static void wrongVotes() {
        LifeList x = new LifeList();
        Checks.due("no work", x.vote(0, 0, 7, 0, false), LifeList.BAD);
        Checks.painting(x);
        Checks.due("day -1", x.vote(0, -1, 7, 0, false), LifeList.BAD);
        Checks.due("day 10000", x.vote(0, 10000, 7, 0, false), LifeList.BAD);
        Checks.due("for by member 8", x.vote(0, 0, 256, 0, false), LifeList.BAD);
        Checks.due("against by member 8", x.vote(0, 0, 1, 256, false), LifeList.BAD);
        Checks.due("for -1", x.vote(0, 0, -1, 0, false), LifeList.BAD);
        Checks.due("both", x.vote(0, 0, 3, 2, false), LifeList.BAD);
        Checks.due("none is told", x.vote(0, 0, 0, 0, false), LifeList.NOT);
        Checks.due("none is kept", x.count(4), 0);
        Checks.due("votes of none", x.votes(0, 0), LifeList.BAD);
    }

    private static void passing() {
        LifeList x = new LifeList();
        Checks.painting(x);
        Checks.due("two are too few", x.vote(0, 0, 3, 0, false), 0);
        Checks.due("two thirds", x.vote(0, 0, 3, 4, false), 1);
        Checks.due("less", x.vote(0, 0, 1, 6, false), 0);
        Checks.due("five of eight", x.vote(0, 0, 31, 224, false), 0);
        Checks.due("six of eight", x.vote(0, 0, 63, 192, false), 1);
        Checks.due("one for, none against", x.vote(0, 0, 1, 0, false), 0);
        Checks.due("none for", x.vote(0, 0, 0, 255, false), 0);
    }

    private static void rulesOfKinds() {
        LifeList x = new LifeList();
        x.work(0, 300, 300, 1, 1850, 1900);
        x.version(0, 300, 300, 1, 1850, 1900);
        x.work(2, 300, 300, 1, 1850, 1900);
        x.print(0, false, 300, 300, 1, 1850, 1900);
        Checks.type(x, "p4,1/1;v1,1/2;d3,1/9;r2,9/9");
        Checks.due("rules", x.rules(), 4);
        int[][] votes = {{7, 0}, {15, 0}, {1, 0}, {1, 2}, {1, 6}, {3, 0}, {3, 4}};
        int[][] due = {{0, 1, 0, 0, 0, 0, 0}, {1, 1, 1, 1, 0, 1, 1}, {1, 1, 0, 0, 1, 0, 1}, {1, 1, 0, 0, 0, 1, 0}};
        for (int work = 0; work < 4; work++) {
            for (int i = 0; i < votes.length; i++) {
                Checks.due("vote " + work + " " + i, x.vote(work, 0, votes[i][0], votes[i][1], false), due[work][i]);
            }
        }
        Checks.due("passed", x.votes(1, 2), 1);
        Checks.type(x, "p8,1/1");
        x.rules();
        Checks.due("later rules change no vote", x.votes(1, 2), 1);
    }

    private static void leftOut() {
        LifeList x = new LifeList();
        Checks.painting(x);
        x.holding(0, 4, 1910, 1915, 1915, 1920);
        x.kin(0, 1 << 4);
        x.kin(1, 1 << 5 | 1 << 4);
        x.kin(2, 1 << 5);
        Checks.due("1909", x.vote(0, 999, 7, 0, false), 1);
        Checks.due("1910, who may hold it", x.vote(0, 1000, 7, 0, false), 0);
        Checks.due("1920", x.vote(0, 2099, 7, 0, false), 0);
        Checks.due("1921", x.vote(0, 2100, 7, 0, false), 1);
        Checks.due("others do", x.vote(0, 1500, 28, 3, true), 1);
        Checks.due("all are kin", x.vote(0, 1500, 1, 2, true), LifeList.NOT);
        Checks.due("five are kept", x.count(4), 5);
        Checks.due("who voted", x.votes(4, 3), 28);
        Checks.due("who did not", x.votes(4, 4), 3);
        x.kin(0, 0);
        Checks.due("later kin changes no vote", x.votes(4, 4), 3);
    }

    private static void keptVotes() {
        LifeList x = new LifeList();
        Checks.painting(x);
        Checks.painting(x);
        x.vote(1, 9999, 5, 10, true);
        x.vote(0, 17, 7, 8, false);
        int[] first = {1, 9999, 0, 15, 0, 1};
        int[] second = {0, 17, 1, 15, 0, 0};
        for (int what = 0; what < 6; what++) {
            Checks.due("first " + what, x.votes(0, what), first[what]);
            Checks.due("second " + what, x.votes(1, what), second[what]);
        }
        Checks.due("what -1", x.votes(0, -1), LifeList.BAD);
        Checks.due("what 6", x.votes(0, 6), LifeList.BAD);
        Checks.due("vote -1", x.votes(-1, 0), LifeList.BAD);
        Checks.due("vote 2", x.votes(2, 0), LifeList.BAD);
    }

    private static void states() {
        LifeList x = new LifeList();
        Checks.painting(x);
        Checks.painting(x);
        x.vote(0, 500, 7, 0, false);
        x.vote(0, 300, 7, 0, true);
        x.vote(0, 500, 1, 6, true);
        x.vote(0, 500, 7, 0, true);
        x.vote(0, 400, 7, 0, false);
        Checks.due("ahead of all", x.state(0, 299, 5), 0);
        Checks.due("a vote known late", x.state(0, 300, 2), 2);
        Checks.due("not known yet", x.state(0, 300, 1), 0);
        Checks.due("the latest day", x.state(0, 500, 2), 1);
        Checks.due("one that did not pass", x.state(0, 500, 3), 1);
        Checks.due("of like days the later", x.state(0, 500, 4), 2);
        Checks.due("in between", x.state(0, 499, 5), 1);
        Checks.due("all", x.state(0, 9999, 5), 2);
        Checks.due("no votes", x.state(0, 9999, 0), 0);
        Checks.due("day 0", x.state(0, 0, 5), 0);
        Checks.due("another work", x.state(1, 9999, 5), 0);
        Checks.due("n -1", x.state(0, 0, -1), LifeList.BAD);
        Checks.due("n 6", x.state(0, 0, 6), LifeList.BAD);
        Checks.due("day -1", x.state(0, -1, 0), LifeList.BAD);
        Checks.due("day 10000", x.state(0, 10000, 0), LifeList.BAD);
        Checks.due("work 2", x.state(2, 0, 0), LifeList.BAD);
        Checks.due("struck", x.count(7), 1);
        Checks.due("in", x.count(6), 0);
        x.vote(1, 0, 7, 0, false);
        Checks.due("in", x.count(6), 1);
        Checks.due("count -1", x.count(-1), LifeList.BAD);
        Checks.due("count 8", x.count(8), LifeList.BAD);
    }

    private static void leaning() {
        LifeList x = new LifeList();
        Checks.painting(x);
        for (int of = 0; of < 39; of++) {
            x.print(of, false, 100, 100, 1, 1850, 1900);
        }
        for (int work = 0; work < 40; work++) {
            Checks.due("leaning on " + work, x.leaning(work), 39 - work);
        }
        Checks.due("on none", x.leaning(40), LifeList.BAD);
        Checks.due("on -1", x.leaning(-1), LifeList.BAD);
        LifeList y = new LifeList();
        Checks.painting(y);
        y.version(0, 100, 100, 1, 1850, 1900);
        y.print(0, false, 100, 100, 1, 1850, 1900);
        y.print(1, false, 100, 100, 1, 1850, 1900);
        Checks.painting(y);
        int[] due = {3, 1, 0, 0, 0};
        for (int work = 0; work < due.length; work++) {
            Checks.due("on " + work, y.leaning(work), due[work]);
        }
    }

    private static void unsure() {
        LifeList x = new LifeList();
        Checks.painting(x);
        x.version(0, 100, 100, 1, 1850, 1900);
        x.print(1, false, 100, 100, 1, 1850, 1900);
        x.vote(2, 100, 7, 0, false);
        Checks.due("of doubtful ones", x.unsure(100, 1), 1);
        Checks.due("not in yet", x.unsure(99, 1), 0);
        x.vote(1, 100, 7, 0, false);
        Checks.due("both lean on the first", x.unsure(100, 2), 2);
        Checks.due("as of one vote", x.unsure(100, 1), 1);
        x.vote(0, 101, 7, 0, false);
        Checks.due("all are in", x.unsure(101, 3), 0);
        x.vote(0, 102, 7, 0, true);
        Checks.due("struck", x.unsure(102, 4), 2);
        Checks.due("ahead of it", x.unsure(101, 4), 0);
        Checks.due("day -1", x.unsure(-1, 0), LifeList.BAD);
        Checks.due("day 10000", x.unsure(10000, 0), LifeList.BAD);
        Checks.due("n -1", x.unsure(0, -1), LifeList.BAD);
        Checks.due("n 5", x.unsure(0, 5), LifeList.BAD);
    }

    private static void fullOfVotes() {
        LifeList x = new LifeList();
        Checks.painting(x);
        for (int i = 0; i < 60; i++) {
            Checks.due("vote", x.vote(0, i, 7, 0, i % 2 == 0), 1);
        }
        Checks.due("a 61st", x.vote(0, 99, 7, 0, true), LifeList.FULL);
        Checks.due("NOT ahead of FULL", x.vote(0, 99, 0, 0, true), LifeList.NOT);
        Checks.due("BAD ahead of NOT", x.vote(1, 99, 0, 0, true), LifeList.BAD);
        Checks.due("60", x.count(4), 60);
        Checks.due("the last holds", x.state(0, 9999, 60), 1);
    }
}
