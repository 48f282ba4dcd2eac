/** Promises 31 to 33: counts, undo, the checksum. */
final class UndoTest {
    private static final Class<?> ARGUMENT = IllegalArgumentException.class;
    private static final Class<?> STATE = IllegalStateException.class;

    private static void promise31() {
        MailSync x = new MailSync();
        Check.refuses("told 7", x, ARGUMENT, () -> x.told(7));
        Check.refuses("told -1", x, ARGUMENT, () -> x.told(-1));
        x.add(0, 1, 1);
        x.sync(0, 0);
        x.plan(0, 0, 1, 1, 2);
        x.change(0, 1, 1, 4, -1);
        x.playBack(0);
        int[] due = {1, 0, 1, 0, 0, 1, 0};
        for (int what = 0; what < 7; what++) {
            Check.same("told(" + what + ")", x.told(what), due[what]);
        }
        x.syncCost(1, 0);
        Check.same("a cost is no sync", x.told(2), 1);
        x.undo();
        Check.same("counts are undone", x.told(5), 0);
    }

    // Nothing that a record holds is as in a new object, so that what is left out of it shows.
    private static MailSync prepared() {
        MailSync x = new MailSync();
        x.setPolicy(1, 1);
        x.renew(1);
        x.renew(0);
        x.sync(0, 1);
        x.add(0, 1, 1);
        x.add(0, 2, 1);
        x.add(0, 3, 0);
        x.sync(0, 0);
        x.planNew(0, 0, 4, 4);
        x.plan(0, 0, 2, 1, 8);
        x.plan(0, 0, 3, 1, 8);
        return x;
    }

    private static void undoes(String what, Check.Call call, MailSync x) {
        String before = Look.all(x);
        long sum = x.checksum();
        call.answer();
        Check.same(what + ": undo", x.undo(), 3);
        Check.told(what + " is undone: all that can be asked", Look.all(x), before);
        // The four records of before are three now, as the call dropped the oldest.
        Check.holds(what + ": one record fewer", x.checksum() == sum - 1);
    }

    private static void everyUndoable() {
        MailSync a = prepared();
        undoes("add", () -> a.add(0, 9, 9), a);
        MailSync b = prepared();
        undoes("change", () -> b.change(0, 1, 0, 60, -1), b);
        MailSync c = prepared();
        undoes("remove", () -> c.remove(0, 1), c);
        MailSync d = prepared();
        undoes("clean", () -> d.clean(0), d);
        MailSync e = prepared();
        undoes("copy", () -> e.copy(0, 1, 2), e);
        MailSync f = prepared();
        undoes("renew", () -> f.renew(0), f);
        MailSync g = prepared();
        undoes("setPolicy", () -> g.setPolicy(0, 1), g);
        Check.same("the policy is undone", g.setPolicy(0, 0), 0);
        MailSync h = prepared();
        undoes("sync", () -> h.sync(1, 0), h);
        MailSync i = prepared();
        undoes("plan", () -> i.plan(0, 0, 2, 2, 63), i);
        MailSync j = prepared();
        undoes("planNew", () -> j.planNew(3, 2, 1, 1), j);
        Check.same("the number of the next deed is undone", j.planNew(1, 1, 1, 1), 4);
        MailSync k = prepared();
        undoes("planRemoval", () -> k.planRemoval(0, 0, 1), k);
        MailSync l = prepared();
        undoes("takeBack", () -> l.takeBack(0, 2), l);
        MailSync m = prepared();
        undoes("playBack", () -> m.playBack(0), m);
        MailSync n = prepared();
        undoes("settle", n::settle, n);
    }

    private static void recordsWithoutChange() {
        MailSync x = new MailSync();
        x.add(0, 1, 0);
        x.undo();
        x.clean(0);
        Check.same("clean of nothing", x.undo(), 0);
        x.setPolicy(0, 0);
        Check.same("the same policy", x.undo(), 0);
        x.playBack(0);
        Check.same("no deeds", x.undo(), 0);
        x.settle();
        Check.same("nothing to settle", x.undo(), 0);
        x.add(0, 1, 5);
        x.change(0, 1, 0, 5, -1);
        Check.same("the same flags", x.undo(), 1);
        Check.same("the message is still there", x.message(0, 0, 2), 5);
        x.undo();
        x.box(0, 0);
        x.checksum();
        x.syncCost(0, 0);
        Check.refuses("what only asks makes no record", x, STATE, () -> x.undo());
    }

    private static void recordsStayApart() {
        MailSync x = new MailSync();
        x.add(0, 1, 1);
        x.undo();
        x.add(0, 2, 2);
        x.add(0, 3, 3);
        Check.same("undo", x.undo(), 1);
        Check.same("the first one stands", x.message(0, 0, 1), 2);
        Check.same("alone", x.box(0, 3), 1);
        Check.same("undo", x.undo(), 0);
        Check.same("nothing stands", x.box(0, 3), 0);
    }

    private static void promise32() {
        MailSync x = new MailSync();
        Check.refuses("nothing to undo", x, STATE, () -> x.undo());
        long[] sums = new long[7];
        for (int k = 0; k < 7; k++) {
            sums[k] = x.box(0, 3);
            x.add(0, k, k);
        }
        for (int left = 3; left >= 0; left--) {
            Check.same("undo", x.undo(), left);
            Check.same("messages then", x.box(0, 3), sums[left + 3]);
        }
        Check.refuses("only four are kept", x, STATE, () -> x.undo());
        Check.same("three of them stand", x.box(0, 3), 3);
        Check.same("names go on from there", x.add(0, 1, 1), 4);
        Check.same("undo", x.undo(), 0);
        Check.refuses("a call that throws", x, IndexOutOfBoundsException.class, () -> x.add(3, 0, 0));
        Check.refuses("makes no record", x, STATE, () -> x.undo());
        everyUndoable();
        recordsWithoutChange();
        recordsStayApart();
    }

    private static long sum(long... values) {
        long h = 12861;
        for (long v : values) {
            h = 31 * h + v;
        }
        return h;
    }

    private static void promise33() {
        MailSync fresh = new MailSync();
        long[] zeros = new long[18 + 52 + 7 + 1];
        for (int b = 0; b < 3; b++) {
            zeros[6 * b] = 1;
            zeros[6 * b + 1] = 1;
        }
        Check.same("checksum of a new one", fresh.checksum(), sum(zeros));
        MailSync x = new MailSync();
        x.add(0, 7, 1);
        x.add(0, 8, 2);
        x.sync(0, 0);
        x.remove(0, 1);
        x.planNew(0, 1, 5, 6);
        x.playBack(0);
        x.setPolicy(0, 1);
        x.plan(0, 0, 2, 0, 3);
        x.planNew(3, 2, 4, 4);
        Check.same("checksum", x.checksum(), sum(
                1, 3, 3, 1, 0, 1, 2, 8, 2, 2, 1, 3,
                1, 2, 1, 1, 0, 0, 1, 5, 6, 1,
                1, 1, 0, 0, 0, 0,
                1, 1, 2, 2, 2, 1, 7, 1, 1, 2, 8, 2, 2, 0, 0, 0, 0, 0, 0, 0, 0, 2, 0, 0, 2, 3, 60, -1,
                0, 0, 0, 0, 0, 0, 0, 0, 0, 0, 0, 0, 0,
                0, 0, 0, 0, 0, 0, 0, 0, 0, 0, 0, 0, 0,
                0, 0, 0, 0, 0, 0, 0, 0, 0, 0, 0, 0, 1, 3, 1, 2, -1, 4, 0, 4,
                1, 0,
                2, 0, 1, 0, 0, 0, 0,
                4));
        long before = x.checksum();
        Check.same("it changes nothing", x.checksum(), before);
    }

    public static void main(String[] args) {
        promise31();
        promise32();
        promise33();
        Check.end();
    }
}
