/** Promises 13 to 20: machines, syncing, copies and views. */
final class MachineTest {
    private static final Class<?> INDEX = IndexOutOfBoundsException.class;
    private static final Class<?> ARGUMENT = IllegalArgumentException.class;

    private static void syncs(String when, MailSync x, int machine, int box, int due) {
        long before = x.checksum();
        Check.same(when + ": syncCost", x.syncCost(machine, box), due);
        Check.same(when + ": syncCost changes nothing", x.checksum(), before);
        Check.same(when + ": sync", x.sync(machine, box), due);
        Check.same(when + ": syncCost then", x.syncCost(machine, box), 0);
    }

    private static MailSync withMessages(int count) {
        MailSync x = new MailSync();
        for (int k = 1; k <= count; k++) {
            x.add(0, 100 + k, 1);
        }
        return x;
    }

    private static void promise13() {
        MailSync x = new MailSync();
        Check.same("first policy", x.setPolicy(3, 1), 0);
        Check.same("then", x.setPolicy(3, 1), 1);
        Check.same("and back", x.setPolicy(3, 0), 1);
        Check.same("another machine", x.setPolicy(0, 1), 0);
        Check.refuses("no machine", x, INDEX, () -> x.setPolicy(4, 2));
        Check.refuses("no machine", x, INDEX, () -> x.setPolicy(-1, 0));
        Check.refuses("policy 2", x, ARGUMENT, () -> x.setPolicy(0, 2));
        Check.refuses("policy -1", x, ARGUMENT, () -> x.setPolicy(0, -1));
    }

    private static void syncAllAtFirst() {
        MailSync x = withMessages(3);
        syncs("first sync", x, 1, 0, 3);
        Look.copyOf("first sync", x, 1, 0, 1, 3, 3, 3);
        Look.copied("first sync", x, 1, 0, 2, 3, 103, 1, 3);
        Look.told("first sync", x, 3, 0, 1, 0, 0, 0, 0);
        syncs("an empty box", x, 1, 1, 0);
        Look.copyOf("an empty box", x, 1, 1, 1, 0, 0, 0);
        Look.told("an empty box", x, 3, 0, 2, 0, 0, 0, 0);
        Look.copyOf("another machine", x, 0, 0, 0, 0, 0, 0);
    }

    private static void syncByMarks() {
        MailSync x = withMessages(8);
        x.sync(1, 0);
        x.change(0, 2, 1, 32, -1);
        x.add(0, 7, 7);
        for (int name = 3; name <= 8; name++) {
            x.remove(0, name);
        }
        Check.same("the horizon is still 0", x.box(0, 4), 0);
        syncs("by marks", x, 1, 0, 8);
        Look.told("by marks", x, 10, 6, 1, 1, 0, 0, 0);
        Look.copyOf("by marks", x, 1, 0, 1, 16, 3, 3);
        Look.copied("by marks", x, 1, 0, 0, 1, 101, 1, 1);
        Look.copied("by marks", x, 1, 0, 1, 2, 102, 33, 9);
        Look.copied("by marks", x, 1, 0, 2, 9, 7, 7, 10);
        x.add(0, 5, 1);
        x.remove(0, 10);
        syncs("what came and went since", x, 1, 0, 1);
        Look.told("what came and went since", x, 10, 7, 1, 2, 0, 0, 0);
        syncs("nothing new", x, 1, 0, 0);
        Look.told("nothing new", x, 10, 7, 1, 3, 0, 0, 0);
    }

    private static void syncAtTheHorizon() {
        MailSync x = withMessages(8);
        x.remove(0, 1);
        x.sync(2, 0);
        for (int name = 2; name <= 7; name++) {
            x.remove(0, name);
        }
        Check.same("the horizon is the mark of the copy", x.box(0, 4), 9);
        syncs("at the horizon", x, 2, 0, 6);
        Look.told("at the horizon", x, 7, 6, 1, 1, 0, 0, 0);
        Look.copyOf("at the horizon", x, 2, 0, 1, 15, 1, 1);
    }

    private static void syncByComparing() {
        MailSync x = withMessages(10);
        x.sync(2, 0);
        for (int name = 1; name <= 7; name++) {
            x.remove(0, name);
        }
        x.add(0, 3, 0);
        Check.same("the horizon", x.box(0, 4), 11);
        syncs("by comparing", x, 2, 0, 5);
        Look.told("by comparing", x, 11, 4, 1, 0, 1, 0, 0);
        Look.copyOf("by comparing", x, 2, 0, 1, 18, 4, 4);
        Look.copied("by comparing", x, 2, 0, 0, 8, 108, 1, 8);
        Look.copied("by comparing", x, 2, 0, 3, 11, 3, 0, 18);
    }

    private static void syncToAnotherEra() {
        MailSync x = withMessages(3);
        x.sync(0, 0);
        x.plan(0, 0, 1, 1, 8);
        x.planNew(0, 0, 50, 2);
        x.planRemoval(0, 0, 2);
        x.sync(0, 1);
        x.remove(0, 1);
        x.renew(0);
        syncs("another era", x, 0, 0, 2);
        Look.copyOf("another era", x, 0, 0, 2, 5, 2, 3);
        Look.copied("another era", x, 0, 0, 0, 1, 102, 1, 5);
        Look.told("another era", x, 5, 0, 3, 0, 0, 0, 2);
        Check.same("dropped first", x.noted(0), 1);
        Check.same("dropped then", x.noted(1), 3);
        Check.same("outcome of the flags", x.outcome(1), 3);
        Check.same("outcome of the removal", x.outcome(3), 3);
        Check.same("the new one stays", x.deed(0, 0, 0), 2);
        Check.same("alone", x.deed(0, 1, 0), -1);
    }

    private static void syncDropsDeeds() {
        MailSync x = withMessages(4);
        x.add(1, 1, 1);
        x.sync(0, 0);
        x.sync(0, 1);
        x.planRemoval(0, 0, 3);
        x.plan(0, 0, 1, 1, 8);
        x.plan(0, 1, 1, 1, 8);
        x.plan(0, 0, 2, 1, 8);
        x.planRemoval(0, 0, 2);
        x.remove(0, 3);
        x.remove(0, 2);
        x.remove(1, 1);
        syncs("messages are gone", x, 0, 0, 2);
        Check.same("noted first", x.noted(0), 1);
        Check.same("noted then", x.noted(1), 4);
        Check.same("noted last", x.noted(2), 5);
        Check.same("nothing else", x.noted(3), -1);
        Check.same("outcome", x.outcome(5), 2);
        Check.same("the first that stays", x.deed(0, 0, 0), 2);
        Check.same("that of the other box stays", x.deed(0, 1, 0), 3);
        Look.told("messages are gone", x, 5, 2, 2, 1, 0, 0, 3);
    }

    // A copy that lags keeps what it had, so that what it plays back can bring it far above 20.
    private static void copyGrows() {
        MailSync x = new MailSync();
        x.sync(0, 0);
        x.add(0, 0, 0);
        for (int round = 0; round < 40; round++) {
            for (int k = 0; k < 8; k++) {
                x.planNew(0, 0, round, 1);
            }
            Check.same("all are added", x.playBack(0), 8);
            Check.same("and removed", x.clean(0), 8);
        }
        Look.copyOf("grown", x, 0, 0, 1, 0, 320, 320);
        Look.copied("grown", x, 0, 0, 319, 321, 39, 1, 633);
        Look.view("grown", x, 0, 0, 0, 2, 0, 1);
        Check.same("different", x.different(0, 0), 321);
        long before = x.checksum();
        syncs("grown", x, 0, 0, 2);
        Look.copyOf("synced", x, 0, 0, 1, 641, 1, 1);
        x.undo();
        Check.same("undone, with 3 records for 4", x.checksum(), before - 1);
        Look.copyOf("undone", x, 0, 0, 1, 0, 320, 320);
    }

    private static void promises14and15() {
        syncAllAtFirst();
        syncByMarks();
        syncAtTheHorizon();
        syncByComparing();
        syncToAnotherEra();
        syncDropsDeeds();
        copyGrows();
        MailSync x = new MailSync();
        Check.refuses("sync: no machine", x, INDEX, () -> x.sync(4, 0));
        Check.refuses("sync: no box", x, INDEX, () -> x.sync(0, 3));
        Check.refuses("syncCost: no machine", x, INDEX, () -> x.syncCost(-1, 0));
        Check.refuses("syncCost: no box", x, INDEX, () -> x.syncCost(0, -1));
    }

    private static void promises16and17() {
        MailSync x = withMessages(2);
        x.sync(3, 0);
        x.planNew(3, 0, 1, 1);
        x.planNew(3, 0, 2, 1);
        x.planRemoval(3, 0, 1);
        Look.copyOf("with deeds", x, 3, 0, 1, 2, 2, 3);
        for (int k : new int[] {-1, 2, 1 << 30, Integer.MIN_VALUE, Integer.MAX_VALUE}) {
            Look.copied("no such position", x, 3, 0, k, -1, -1, -1, -1);
        }
        Check.refuses("copyOf: no machine", x, INDEX, () -> x.copyOf(4, 0, 4));
        Check.refuses("copyOf: no box", x, INDEX, () -> x.copyOf(0, 3, 4));
        Check.refuses("copyOf: what 4", x, ARGUMENT, () -> x.copyOf(0, 0, 4));
        Check.refuses("copyOf: what -1", x, ARGUMENT, () -> x.copyOf(0, 0, -1));
        Check.refuses("copied: no machine", x, INDEX, () -> x.copied(-1, 0, 0, 4));
        Check.refuses("copied: no box", x, INDEX, () -> x.copied(0, -1, 0, 4));
        Check.refuses("copied: what 4", x, ARGUMENT, () -> x.copied(0, 0, 9, 4));
        Check.refuses("copied: what -1", x, ARGUMENT, () -> x.copied(0, 0, 9, -1));
    }

    private static void promise18() {
        MailSync x = withMessages(3);
        x.sync(0, 0);
        x.planNew(0, 0, 50, 12);
        x.planNew(0, 1, 60, 13);
        x.plan(0, 0, 3, 0, 6);
        x.planRemoval(0, 0, 2);
        x.planNew(0, 0, 70, 14);
        Look.view("as it was", x, 0, 0, 0, 1, 101, 1);
        Look.view("with other flags", x, 0, 0, 1, 3, 103, 6);
        Look.view("new", x, 0, 0, 2, -1, 50, 12);
        Look.view("new", x, 0, 0, 3, -5, 70, 14);
        Look.view("no more", x, 0, 0, 4, -1, -1, -1);
        Look.view("before the first", x, 0, 0, -1, -1, -1, -1);
        Check.same("the other box", x.view(0, 1, 0, 0), -2);
        Look.copied("the copy stays", x, 0, 0, 1, 2, 102, 1, 2);
        x.plan(0, 0, 1, 2, 1);
        x.plan(0, 0, 1, 1, 16);
        Look.view("added and taken off", x, 0, 0, 0, 1, 101, 16);
        Check.refuses("no machine", x, INDEX, () -> x.view(4, 0, 0, 3));
        Check.refuses("no box", x, INDEX, () -> x.view(0, 3, 0, 3));
        Check.refuses("what 3", x, ARGUMENT, () -> x.view(0, 0, 9, 3));
        Check.refuses("what -1", x, ARGUMENT, () -> x.view(0, 0, 9, -1));
    }

    private static void promise19() {
        MailSync x = withMessages(4);
        Check.same("nothing copied", x.different(0, 0), 4);
        x.sync(0, 0);
        Check.same("just synced", x.different(0, 0), 0);
        x.plan(0, 0, 1, 1, 4);
        Check.same("other flags", x.different(0, 0), 1);
        x.change(0, 1, 1, 4, -1);
        Check.same("the same flags by another way", x.different(0, 0), 0);
        x.planRemoval(0, 0, 2);
        Check.same("one that only the box has", x.different(0, 0), 1);
        x.planNew(0, 0, 1, 1);
        Check.same("a new one", x.different(0, 0), 2);
        x.remove(0, 3);
        Check.same("one that only the view has", x.different(0, 0), 3);
        x.remove(0, 2);
        Check.same("one that neither has", x.different(0, 0), 2);
        x.renew(0);
        Check.same("eras do not matter, names do", x.different(0, 0), 4);
        MailSync y = withMessages(2);
        y.sync(0, 0);
        y.renew(0);
        Check.same("eras do not matter", y.different(0, 0), 0);
        y.remove(0, 2);
        y.renew(0);
        y.add(0, 999, 1);
        Check.same("another content", y.different(0, 0), 1);
        Check.refuses("no machine", x, INDEX, () -> x.different(4, 0));
        Check.refuses("no box", x, INDEX, () -> x.different(0, 3));
    }

    private static void promise20() {
        MailSync x = withMessages(2);
        Check.holds("both empty", x.areAlike(0, 1, 0));
        x.sync(0, 0);
        Check.holds("one empty", !x.areAlike(0, 1, 0));
        x.sync(1, 0);
        Check.holds("both synced", x.areAlike(0, 1, 0));
        x.plan(0, 0, 2, 1, 4);
        Check.holds("other flags", !x.areAlike(1, 0, 0));
        x.plan(1, 0, 2, 0, 5);
        Check.holds("the same flags by another way", x.areAlike(0, 1, 0));
        x.planRemoval(0, 0, 1);
        Check.holds("one removed", !x.areAlike(0, 1, 0));
        x.planRemoval(1, 0, 1);
        Check.holds("both removed", x.areAlike(0, 1, 0));
        x.planNew(0, 0, 5, 5);
        x.planNew(1, 0, 5, 5);
        Check.holds("new ones have names of their own", !x.areAlike(0, 1, 0));
        Check.holds("a machine is like itself", x.areAlike(0, 0, 0));
        MailSync y = withMessages(1);
        y.sync(0, 0);
        y.remove(0, 1);
        y.renew(0);
        y.add(0, 5, 1);
        y.sync(1, 0);
        Check.holds("another content", !y.areAlike(0, 1, 0));
        Check.refuses("no machine", x, INDEX, () -> x.areAlike(4, 0, 0) ? 1 : 0);
        Check.refuses("no other machine", x, INDEX, () -> x.areAlike(0, -1, 0) ? 1 : 0);
        Check.refuses("no box", x, INDEX, () -> x.areAlike(0, 0, 3) ? 1 : 0);
    }

    public static void main(String[] args) {
        promise13();
        promises14and15();
        promises16and17();
        promise18();
        promise19();
        promise20();
        Check.end();
    }
}
