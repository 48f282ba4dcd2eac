import java.util.Arrays;
import java.util.List;

/**
 * "A call that throws an exception changes nothing. If several exceptions of a method apply, the one
 * that is listed first is thrown. NONE is returned only if no exception applies."
 *
 * Every method is called with each argument at the least and the greatest value that it may have, just
 * below and just above, and with the least and the greatest int, in all combinations.
 */
final class RefusalTest {
    private static final int LEAST = Integer.MIN_VALUE;
    private static final int MOST = Integer.MAX_VALUE;
    private static final Class<?> INDEX = IndexOutOfBoundsException.class;
    private static final Class<?> ARGUMENT = IllegalArgumentException.class;
    private static final Class<?> STATE = IllegalStateException.class;
    // The order in which every method of the document lists its exceptions.
    private static final List<Class<?>> ORDER = List.of(INDEX, ARGUMENT, STATE);

    private interface Face {
        long call(MailSync x, int[] a);
    }

    private interface Maker {
        MailSync make();
    }

    /** A value of an argument with the exception that it calls for; null for none. */
    private record Value(int value, Class<?> thrown) {
    }

    private static Value[] values(Class<?> thrown, int... all) {
        Value[] list = new Value[all.length];
        for (int k = 0; k < all.length; k++) {
            list[k] = new Value(all[k], thrown);
        }
        return list;
    }

    private static Value[] good(int... all) {
        return values(null, all);
    }

    private static Value[] and(Value[] one, Value[] other) {
        Value[] list = Arrays.copyOf(one, one.length + other.length);
        System.arraycopy(other, 0, list, one.length, other.length);
        return list;
    }

    private static Value[] within(Class<?> thrown, int least, int most) {
        return and(good(least, most), values(thrown, least - 1, most + 1, LEAST, MOST));
    }

    private static final Value[] BOX = within(INDEX, 0, 2);
    private static final Value[] MACHINE = within(INDEX, 0, 3);
    private static final Value[] CONTENT = within(ARGUMENT, 0, 999);
    private static final Value[] FLAGS = within(ARGUMENT, 0, 63);
    private static final Value[] HOW = within(ARGUMENT, 0, 2);
    private static final Value[] POLICY = within(ARGUMENT, 0, 1);
    private static final Value[] ANY = good(LEAST, -1, 0, 1, 20, MOST);
    private static final Value[] TRUTH = good(0, 1);
    private static final int[] NO_NAMES = {0, -1, 3, LEAST, MOST};
    private static final Value[] NAME = and(good(1, 2), values(INDEX, NO_NAMES));
    private static final Value[] NAME_IN_COPY = and(good(1, 2), values(STATE, NO_NAMES));
    // The messages that are changed have the marks 1 and 2.
    private static final Value[] SINCE =
            and(good(-1, 2, MOST), and(values(ARGUMENT, -2, LEAST), values(STATE, 0)));

    private static Value[] what(int most) {
        return within(ARGUMENT, 0, most);
    }

    /** Every box has the messages 1 and 2, and every machine has copied them and plans a new one. */
    private static MailSync ordinary() {
        MailSync x = new MailSync();
        for (int b = 0; b < 3; b++) {
            x.add(b, 10, 1);
            x.add(b, 20, 63);
        }
        for (int m = 0; m < 4; m++) {
            for (int b = 0; b < 3; b++) {
                x.sync(m, b);
            }
            x.planNew(m, 1, 30, 3);
        }
        return x;
    }

    private static MailSync withFullBoxes() {
        MailSync x = ordinary();
        for (int b = 0; b < 3; b++) {
            for (int k = 3; k <= 20; k++) {
                x.add(b, k, 0);
            }
        }
        return x;
    }

    private static MailSync withEightDeeds() {
        MailSync x = ordinary();
        for (int m = 0; m < 4; m++) {
            for (int k = 2; k <= 8; k++) {
                x.planNew(m, 0, k, 0);
            }
        }
        return x;
    }

    private static MailSync withRemovals() {
        MailSync x = ordinary();
        for (int m = 0; m < 4; m++) {
            for (int b = 0; b < 3; b++) {
                x.planRemoval(m, b, 1);
                x.planRemoval(m, b, 2);
            }
        }
        return x;
    }

    private static MailSync withoutFlag0() {
        MailSync x = ordinary();
        for (int b = 0; b < 3; b++) {
            x.change(b, 1, 0, 62, -1);
            x.change(b, 2, 0, 0, -1);
        }
        return x;
    }

    private final String name;
    private final Maker maker;
    private final Class<?> otherwise;
    private final boolean undoable;
    private final Face face;
    private final Value[][] arguments;
    private final String before;
    private final MailSync refusing;

    private RefusalTest(String name, Maker maker, Class<?> otherwise, boolean undoable, Face face,
            Value[]... arguments) {
        this.name = name;
        this.maker = maker;
        this.otherwise = otherwise;
        this.undoable = undoable;
        this.face = face;
        this.arguments = arguments;
        this.refusing = maker.make();
        this.before = Look.all(refusing);
    }

    private static void asks(String name, Face face, Value[]... arguments) {
        new RefusalTest(name, RefusalTest::ordinary, null, false, face, arguments).all();
    }

    private static void changes(String name, Face face, Value[]... arguments) {
        new RefusalTest(name, RefusalTest::ordinary, null, true, face, arguments).all();
    }

    /** With what the maker makes, even the best arguments call for IllegalStateException. */
    private static void refused(String name, Maker maker, Face face, Value[]... arguments) {
        new RefusalTest(name, maker, STATE, true, face, arguments).all();
    }

    private void all() {
        go(new int[arguments.length], 0, null);
        Check.told(name + ": refused calls change nothing that can be asked", Look.all(refusing), before);
        MailSync untouched = maker.make();
        Check.same(name + ": refused calls make no record", refusing.undo(), untouched.undo());
        Check.told(name + ": the latest record", Look.all(refusing), Look.all(untouched));
        Check.same(name + ": refused calls use no number", numberOfNext(refusing), numberOfNext(untouched));
    }

    private static int numberOfNext(MailSync x) {
        x.takeBack(0, x.deed(0, 0, 0));
        return x.planNew(0, 0, 0, 0);
    }

    private void go(int[] chosen, int k, Class<?> due) {
        if (k == chosen.length) {
            check(chosen.clone(), due == null ? otherwise : due);
            return;
        }
        for (Value value : arguments[k]) {
            chosen[k] = value.value;
            go(chosen, k + 1, first(due, value.thrown));
        }
    }

    private static Class<?> first(Class<?> one, Class<?> other) {
        if (one == null || other == null) {
            return one == null ? other : one;
        }
        return ORDER.indexOf(one) < ORDER.indexOf(other) ? one : other;
    }

    private void check(int[] chosen, Class<?> due) {
        String call = name + Arrays.toString(chosen);
        if (due != null) {
            Check.refuses(call, refusing, due, () -> face.call(refusing, chosen));
            return;
        }
        MailSync x = maker.make();
        long sum = x.checksum();
        String got = Check.tell(() -> face.call(x, chosen));
        Check.holds(call + " does not throw: " + got, !got.startsWith("throws"));
        if (undoable) {
            Check.same(call + " makes a record; undo", x.undo(), 3);
            Check.told(call + " is undone", Look.all(x), before);
        } else {
            Check.same(call + " changes nothing; the checksum", x.checksum(), sum);
        }
    }

    private static void server() {
        changes("add", (x, a) -> x.add(a[0], a[1], a[2]), BOX, CONTENT, FLAGS);
        refused("add to 20", RefusalTest::withFullBoxes, (x, a) -> x.add(a[0], a[1], a[2]), BOX, CONTENT, FLAGS);
        changes("change", (x, a) -> x.change(a[0], a[1], a[2], a[3], a[4]), BOX, NAME, HOW, FLAGS, SINCE);
        changes("remove", (x, a) -> x.remove(a[0], a[1]), BOX, NAME);
        refused("remove without flag 0", RefusalTest::withoutFlag0, (x, a) -> x.remove(a[0], a[1]), BOX, NAME);
        changes("clean", (x, a) -> x.clean(a[0]), BOX);
        changes("copy", (x, a) -> x.copy(a[0], a[1], a[2]), BOX, NAME, BOX);
        refused("copy to 20", RefusalTest::withFullBoxes, (x, a) -> x.copy(a[0], a[1], a[2]), BOX,
                and(good(1, 20), values(INDEX, 0, -1, 21, LEAST, MOST)), BOX);
        changes("renew", (x, a) -> x.renew(a[0]), BOX);
        asks("box", (x, a) -> x.box(a[0], a[1]), BOX, what(5));
        asks("message", (x, a) -> x.message(a[0], a[1], a[2]), BOX, ANY, what(3));
        asks("vanished", (x, a) -> x.vanished(a[0], a[1], a[2] == 1), BOX, ANY, TRUTH);
        asks("atMost", (x, a) -> x.atMost(a[0], a[1]), BOX, ANY);
        asks("changedAfter", (x, a) -> x.changedAfter(a[0], a[1]), BOX, ANY);
    }

    private static void machines() {
        changes("setPolicy", (x, a) -> x.setPolicy(a[0], a[1]), MACHINE, POLICY);
        changes("sync", (x, a) -> x.sync(a[0], a[1]), MACHINE, BOX);
        asks("syncCost", (x, a) -> x.syncCost(a[0], a[1]), MACHINE, BOX);
        asks("copyOf", (x, a) -> x.copyOf(a[0], a[1], a[2]), MACHINE, BOX, what(3));
        asks("copied", (x, a) -> x.copied(a[0], a[1], a[2], a[3]), MACHINE, BOX, ANY, what(3));
        asks("view", (x, a) -> x.view(a[0], a[1], a[2], a[3]), MACHINE, BOX, ANY, what(2));
        asks("different", (x, a) -> x.different(a[0], a[1]), MACHINE, BOX);
        asks("areAlike", (x, a) -> x.areAlike(a[0], a[1], a[2]) ? 1 : 0, MACHINE, MACHINE, BOX);
    }

    private static void deeds() {
        Face plan = (x, a) -> x.plan(a[0], a[1], a[2], a[3], a[4]);
        changes("plan", plan, MACHINE, BOX, NAME_IN_COPY, HOW, FLAGS);
        refused("plan a ninth", RefusalTest::withEightDeeds, plan, MACHINE, BOX, NAME_IN_COPY, HOW, FLAGS);
        refused("plan for a removal", RefusalTest::withRemovals, plan, MACHINE, BOX, NAME_IN_COPY, HOW, FLAGS);
        Face planNew = (x, a) -> x.planNew(a[0], a[1], a[2], a[3]);
        changes("planNew", planNew, MACHINE, BOX, CONTENT, FLAGS);
        refused("planNew a ninth", RefusalTest::withEightDeeds, planNew, MACHINE, BOX, CONTENT, FLAGS);
        Face planRemoval = (x, a) -> x.planRemoval(a[0], a[1], a[2]);
        changes("planRemoval", planRemoval, MACHINE, BOX, NAME_IN_COPY);
        refused("planRemoval a ninth", RefusalTest::withEightDeeds, planRemoval, MACHINE, BOX, NAME_IN_COPY);
        refused("planRemoval twice", RefusalTest::withRemovals, planRemoval, MACHINE, BOX, NAME_IN_COPY);
        // Machine 3 has deed 4; the others are those of other machines, or none at all.
        changes("takeBack", (x, a) -> x.takeBack(a[0], a[1]), and(good(3), values(INDEX, -1, 4, LEAST, MOST)),
                and(good(4), values(STATE, -1, 0, 1, 3, 5, LEAST, MOST)));
        asks("deed", (x, a) -> x.deed(a[0], a[1], a[2]), MACHINE, ANY, what(6));
        changes("playBack", (x, a) -> x.playBack(a[0]), MACHINE);
        asks("outcome", (x, a) -> x.outcome(a[0]), ANY);
        asks("nameOf", (x, a) -> x.nameOf(a[0]), ANY);
        asks("noted", (x, a) -> x.noted(a[0]), ANY);
        changes("settle", (x, a) -> x.settle());
        asks("told", (x, a) -> x.told(a[0]), what(6));
        asks("checksum", (x, a) -> x.checksum());
    }

    private static void undo() {
        MailSync x = new MailSync();
        Check.refuses("undo of a new one", x, STATE, x::undo);
        x.add(0, 1, 1);
        x.undo();
        Check.refuses("undo once more", x, STATE, x::undo);
        Check.same("the name of the next message", x.add(0, 1, 1), 1);
    }

    public static void main(String[] args) {
        server();
        machines();
        deeds();
        undo();
        Check.end();
    }
}
