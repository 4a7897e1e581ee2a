/**
 * What later calls tell of an object, in parts: each kind of call, with some of the numbers that it takes. An
 * object is good for 512 calls: each part asks a new one, and few enough calls that it may be full of everything.
 */
final class Probe {
    static final int PARTS = 13;
    /** Works of which clues tell, in one of the states or another. */
    private static final int[] CLUED = {0, 1, 3, 5, 20, 24};
    private static final int WORKS = 40, MENTIONS = 50, CLUES = 20, VOTES = 60, HOLDINGS = 60;

    private final LifeList list;
    private final StringBuilder text = new StringBuilder();

    private Probe(LifeList list) {
        this.list = list;
    }

    static String tell(LifeList list, int part) {
        Probe probe = new Probe(list);
        switch (part) {
            case 0 -> probe.tellWorks();
            case 1 -> probe.tellTitlesAndSizes();
            case 2 -> probe.tellKinshipOfWorks();
            case 3 -> probe.tellOwners();
            case 4 -> probe.tellHoldings();
            case 5 -> probe.tellScores();
            case 6 -> probe.tellJoins();
            case 7 -> probe.tellYears();
            case 8 -> probe.tellClues();
            case 9 -> probe.tellVotes();
            case 10 -> probe.tellCommittee();
            case 11 -> probe.tellSheets();
            default -> probe.tellEditions();
        }
        return probe.text.toString();
    }

    private void add(int answer) {
        text.append(answer).append(' ');
    }

    private void tellWorks() {
        for (int work = 0; work < WORKS; work++) {
            for (int what = 0; what < 5; what++) {
                add(list.told(work, what));
            }
        }
    }

    private void tellTitlesAndSizes() {
        for (int work = 0; work < WORKS; work++) {
            add(list.then(work, 1800, 0));
            add(list.then(work, 1900, 0));
            add(list.then(work, 1999, 0));
            add(list.then(work, 1999, 1));
            add(list.then(work, 1999, 2));
        }
        for (int work = 2; work < 6; work++) {
            add(list.cut(work, 1999, 10, 10));
        }
    }

    private void tellKinshipOfWorks() {
        for (int work = 0; work < WORKS; work++) {
            add(list.told(work, 5));
            add(list.turned(work));
            add(list.leaning(work));
            add(list.number(work));
        }
        for (int what = 0; what < 8; what++) {
            add(list.count(what));
        }
    }

    private void tellOwners() {
        for (int work = 0; work < WORKS; work++) {
            add(list.twice(work));
            add(list.gap(work, 1850));
            add(list.owner(work, 1880));
            add(list.may(work, 1880));
        }
    }

    private void tellHoldings() {
        for (int i = HOLDINGS - 1; i >= 0; i--) {
            add(list.owner(i % 5, 1853 + i));
            add(list.may(0, 1860));
            add(list.unhold());
        }
    }

    private void tellScores() {
        for (int mention = 0; mention < MENTIONS; mention++) {
            add(list.score(mention, 0));
            add(list.score(mention, 2));
            add(list.rivals(mention));
        }
    }

    private void tellJoins() {
        for (int mention = 0; mention < MENTIONS; mention++) {
            add(list.joined(mention));
            add(list.sure(mention));
        }
        for (int event = 0; event < 16; event++) {
            add(list.sum(event));
        }
        for (int what = 0; what < 5; what++) {
            add(list.mentions(what));
            add(list.counted(0, 1, what));
            add(list.counted(0, 2, what));
        }
    }

    private void tellYears() {
        add(list.quarrel());
        add(list.asides());
        for (int i = 0; i < 3; i++) {
            add(list.aside(i));
        }
        for (int work = 0; work < WORKS; work++) {
            add(list.made(work, 0));
            add(list.made(work, 1));
        }
    }

    private void tellClues() {
        for (int clue = CLUES - 1; clue >= 0; clue--) {
            add(list.use(clue, false));
            add(list.quarrel());
            for (int work : CLUED) {
                add(list.made(work, 0));
            }
        }
    }

    private void tellVotes() {
        for (int i = 0; i < VOTES; i++) {
            add(list.votes(i, 0));
            add(list.votes(i, 2));
            add(list.votes(i, 3));
        }
    }

    private void tellCommittee() {
        for (int i = 0; i < VOTES; i++) {
            add(list.votes(i, 1));
            add(list.votes(i, 4));
            add(list.votes(i, 5));
        }
        for (int member = 0; member < 8; member++) {
            add(list.kin(member, 0));
        }
        for (int kind = 0; kind < 4; kind++) {
            for (int what = 0; what < 3; what++) {
                add(list.rule(kind, what));
            }
        }
    }

    private void tellSheets() {
        for (int sheet = 0; sheet < 4; sheet++) {
            for (int lane = 0; lane < 3; lane++) {
                add(list.unhold());
                add(list.holdings(sheet, lane, 0, 1));
                add(list.may(0, 1850));
                add(list.owner(0, 1950));
                add(list.gap(0, 1800));
            }
            add(list.drop(sheet));
        }
    }

    /** What is typed behind the tape shows what stood there; an edition, what was given. */
    private void tellEditions() {
        add(list.type(';', 1));
        add(list.rules());
        for (int kind = 0; kind < 4; kind++) {
            add(list.rule(kind, 0));
            add(list.rule(kind, 1));
            add(list.rule(kind, 2));
        }
        add(list.edition());
        add(list.count(5));
        for (int work = 0; work < WORKS; work++) {
            add(list.number(work));
            add(list.state(work, 9999, list.count(4)));
        }
    }
}
