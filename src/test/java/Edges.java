/** A state to start from, and calls on it at the edges of what is taken. Each call has an object of its own. */
final class Edges {
    /** Makes an object in the state. */
    interface Maker {
        LifeList make();
    }

    /** A call on an object. */
    interface Call {
        int on(LifeList x);
    }

    /** A call in which all numbers but one stay as they are. */
    interface NumberCall {
        int on(LifeList x, int number);
    }

    private final String name;
    private final Maker maker;
    private final String[] untouched = new String[Probe.PARTS];

    Edges(String name, Maker maker) {
        this.name = name;
        this.maker = maker;
        for (int part = 0; part < Probe.PARTS; part++) {
            untouched[part] = Probe.tell(maker.make(), part);
        }
    }

    void taken(String what, int due, Call call) {
        Checks.due(name + ": " + what, call.on(maker.make()), due);
    }

    /** A call that is taken, and a second one that tells what it did. */
    void shown(String what, int due, Call call, Call showing) {
        LifeList x = maker.make();
        Checks.yes(name + ": " + what + " is taken", call.on(x) >= 0);
        Checks.due(name + ": " + what, showing.on(x), due);
    }

    /** A call that only asks: its answer, and that no later call tells that it was made. */
    void asked(String what, int due, Call call) {
        for (int part = 0; part < Probe.PARTS; part++) {
            LifeList x = maker.make();
            Checks.due(name + ": " + what, call.on(x), due);
            Checks.yes(name + ": " + what + " changes nothing, part " + part,
                    Probe.tell(x, part).equals(untouched[part]));
        }
    }

    void refused(String what, int due, Call call) {
        Checks.yes(what + " is a refusal", due < 0 && due > -20);
        asked(what, due, call);
    }

    /** All numbers from the least to the most are taken; those beside them and far away are BAD. */
    void range(String what, int least, int most, NumberCall call) {
        int[] taken = {least, Math.min(least + 1, most), Math.max(least, most - 1), most};
        for (int number : taken) {
            Checks.yes(name + ": " + what + " " + number + " is taken",
                    call.on(maker.make(), number) != LifeList.BAD);
        }
        bad(what, call, least - 1, most + 1, Integer.MIN_VALUE, Integer.MAX_VALUE);
    }

    /** Any of so many bits is taken, and all of them; none beyond. Whether none at all is, the caller tells. */
    void bits(String what, int bits, NumberCall call) {
        int all = (1 << bits) - 1;
        for (int bit = 0; bit < bits; bit++) {
            Checks.yes(name + ": " + what + ", bit " + bit + " is taken",
                    call.on(maker.make(), 1 << bit) != LifeList.BAD);
        }
        Checks.yes(name + ": " + what + ", all bits are taken", call.on(maker.make(), all) != LifeList.BAD);
        bad(what, call, all + 1, all + 2, 1 << 30, Integer.MIN_VALUE, -1);
    }

    void bad(String what, NumberCall call, int... numbers) {
        for (int number : numbers) {
            refused(what + " " + number, LifeList.BAD, x -> call.on(x, number));
        }
    }
}
