/** Counts the answers of a test and tells those that are not due. */
final class Checks {
    private static int told = 0;
    private static int wrong = 0;

    private Checks() {
    }

    static void due(String call, long got, long want) {
        told++;
        if (got != want) {
            wrong++;
            System.out.println(call + " answered " + got + ", due is " + want);
        }
    }

    static void yes(String what, boolean is) {
        due(what, is ? 1 : 0, 1);
    }

    /** A painting with a title of its own and a wide span, for tests that need works and no more. */
    static int painting(LifeList list) {
        return list.work(0, 300, 300, 1, 1850, 1900);
    }

    /** Types a text, eight bytes at most a call, and answers what the last call did. */
    static int type(LifeList list, String text) {
        int answer = 0;
        for (int from = 0; from < text.length(); from += 8) {
            int to = Math.min(text.length(), from + 8);
            long bytes = 0;
            for (int i = from; i < to; i++) {
                bytes = bytes << 8 | text.charAt(i);
            }
            answer = list.type(bytes, to - from);
        }
        return answer;
    }

    static void end() {
        System.out.println(told + " answers, " + wrong + " not as due");
        if (wrong != 0 || told == 0) {
            System.exit(1);
        }
    }
}
