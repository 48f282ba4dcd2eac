/** Promises 21 to 30: deeds, playing back, outcomes and settling. */
final class DeedTest {
    private static final Class<?> INDEX = IndexOutOfBoundsException.class;
    private static final Class<?> ARGUMENT = IllegalArgumentException.class;
    private static final Class<?> STATE = IllegalStateException.class;

    /** Machines 0 and 1 have copied some messages of box 0, with the contents 101, 102 and so on. */
    private static MailSync synced(int count) {
        MailSync x = new MailSync();
        for (int k = 1; k <= count; k++) {
            x.add(0, 100 + k, 2);
        }
        x.sync(0, 0);
        x.sync(1, 0);
        return x;
    }

    private static void promise21() {
        MailSync x = synced(3);
        Check.same("plan", x.plan(0, 0, 2, 0, 6), 1);
        Look.deed("how 0", x, 0, 0, 1, 0, 0, 2, 6, 57, -1);
        Check.same("plan", x.plan(0, 0, 1, 1, 9), 2);
        Look.deed("how 1", x, 0, 1, 2, 0, 0, 1, 9, 0, -1);
        Check.same("another machine goes on", x.plan(1, 0, 2, 2, 9), 3);
        Look.deed("how 2", x, 1, 0, 3, 0, 0, 2, 0, 9, -1);
        Check.same("again", x.plan(0, 0, 2, 2, 10), 1);
        Look.deed("taken off now", x, 0, 0, 1, 0, 0, 2, 4, 59, -1);
        Check.same("again", x.plan(0, 0, 2, 1, 3), 1);
        Look.deed("added now", x, 0, 0, 1, 0, 0, 2, 7, 56, -1);
        Check.same("again", x.plan(0, 0, 2, 0, 32), 1);
        Look.deed("all now", x, 0, 0, 1, 0, 0, 2, 32, 31, -1);
        Look.deed("the place is kept", x, 0, 1, 2, 0, 0, 1, 9, 0, -1);
        Look.deed("no more", x, 0, 2, -1, -1, -1, -1, -1, -1, -1);
        Check.same("nothing to change is a deed, too", x.plan(0, 0, 3, 1, 0), 4);
        Look.deed("no flags", x, 0, 2, 4, 0, 0, 3, 0, 0, -1);
        Check.same("the server stays", x.box(0, 2), 3);
        planRefusals(x);
        MailSync full = synced(9);
        for (int k = 1; k <= 8; k++) {
            full.plan(0, 0, k, 1, 1);
        }
        Check.refuses("a ninth deed", full, STATE, () -> full.plan(0, 0, 9, 1, 1));
        Check.same("a change of one of 8", full.plan(0, 0, 8, 2, 1), 8);
        Check.same("another machine has room", full.plan(1, 0, 9, 1, 1), 9);
    }

    private static void planRefusals(MailSync x) {
        Check.refuses("no machine", x, INDEX, () -> x.plan(4, 0, 1, 3, 64));
        Check.refuses("no box", x, INDEX, () -> x.plan(0, 3, 1, 3, 64));
        Check.refuses("how 3", x, ARGUMENT, () -> x.plan(0, 0, 99, 3, 0));
        Check.refuses("how -1", x, ARGUMENT, () -> x.plan(0, 0, 1, -1, 0));
        Check.refuses("flags 64", x, ARGUMENT, () -> x.plan(0, 0, 1, 0, 64));
        Check.refuses("flags -1", x, ARGUMENT, () -> x.plan(0, 0, 1, 0, -1));
        Check.refuses("no message in the copy", x, STATE, () -> x.plan(0, 0, 4, 0, 0));
        Check.refuses("no copy of that box", x, STATE, () -> x.plan(0, 1, 1, 0, 0));
        Check.refuses("not in this copy", x, STATE, () -> x.plan(2, 0, 1, 0, 0));
        x.planRemoval(0, 0, 2);
        Check.refuses("it is to be removed", x, STATE, () -> x.plan(0, 0, 2, 0, 0));
        x.add(0, 1, 1);
        Check.refuses("the copy lags", x, STATE, () -> x.plan(0, 0, 4, 0, 0));
    }

    private static void promise22() {
        MailSync x = new MailSync();
        Check.same("planNew", x.planNew(2, 1, 999, 63), 1);
        Look.deed("new", x, 2, 0, 1, 1, 1, -1, 63, 0, 999);
        for (int k = 2; k <= 8; k++) {
            Check.same("planNew", x.planNew(2, 0, 0, 0), k);
        }
        Check.refuses("a ninth", x, STATE, () -> x.planNew(2, 0, 0, 0));
        Check.refuses("a ninth with a wrong content", x, ARGUMENT, () -> x.planNew(2, 0, 1000, 0));
        Check.refuses("content -1", x, ARGUMENT, () -> x.planNew(0, 0, -1, 0));
        Check.refuses("flags 64", x, ARGUMENT, () -> x.planNew(0, 0, 0, 64));
        Check.refuses("flags -1", x, ARGUMENT, () -> x.planNew(0, 0, 0, -1));
        Check.refuses("no machine", x, INDEX, () -> x.planNew(4, 0, -1, 0));
        Check.refuses("no box", x, INDEX, () -> x.planNew(0, -1, -1, 0));
        Check.same("the box stays empty", x.box(1, 3), 0);
    }

    private static void promise23() {
        MailSync x = synced(9);
        Check.same("flags first", x.plan(0, 0, 1, 1, 1), 1);
        Check.same("planRemoval", x.planRemoval(0, 0, 1), 2);
        Look.deed("flags stay", x, 0, 0, 1, 0, 0, 1, 1, 0, -1);
        Look.deed("removal", x, 0, 1, 2, 2, 0, 1, 0, 0, -1);
        Check.refuses("twice", x, STATE, () -> x.planRemoval(0, 0, 1));
        Check.refuses("no such message", x, STATE, () -> x.planRemoval(0, 0, 10));
        Check.refuses("message -1", x, STATE, () -> x.planRemoval(0, 0, -1));
        Check.refuses("no machine", x, INDEX, () -> x.planRemoval(-1, 0, 1));
        Check.refuses("no box", x, INDEX, () -> x.planRemoval(0, 3, 1));
        for (int k = 2; k <= 7; k++) {
            x.planRemoval(0, 0, k);
        }
        Check.refuses("a ninth", x, STATE, () -> x.planRemoval(0, 0, 8));
        Check.same("the server stays", x.box(0, 3), 9);
        Check.same("the copy stays", x.copyOf(0, 0, 2), 9);
        Check.same("the view has two", x.copyOf(0, 0, 3), 2);
    }

    private static void promises24and25() {
        MailSync x = synced(2);
        x.planRemoval(0, 0, 1);
        x.planNew(0, 0, 5, 6);
        x.plan(0, 0, 2, 1, 1);
        Check.same("takeBack", x.takeBack(0, 2), 2);
        Look.deed("the first", x, 0, 0, 1, 2, 0, 1, 0, 0, -1);
        Look.deed("the next", x, 0, 1, 3, 0, 0, 2, 1, 0, -1);
        Check.same("no outcome", x.outcome(2), -1);
        Check.same("nothing noted", x.noted(0), -1);
        Check.refuses("twice", x, STATE, () -> x.takeBack(0, 2));
        Check.refuses("of another machine", x, STATE, () -> x.takeBack(1, 1));
        Check.refuses("deed 0", x, STATE, () -> x.takeBack(0, 0));
        Check.refuses("deed -1", x, STATE, () -> x.takeBack(0, -1));
        Check.refuses("no machine", x, INDEX, () -> x.takeBack(4, 1));
        Check.same("takeBack", x.takeBack(0, 1), 1);
        Check.same("it may be planned for again", x.plan(0, 0, 1, 1, 1), 4);
        for (int k : new int[] {-1, 2, 1 << 30, Integer.MIN_VALUE, Integer.MAX_VALUE}) {
            Look.deed("no such position", x, 0, k, -1, -1, -1, -1, -1, -1, -1);
        }
        Check.refuses("deed: no machine", x, INDEX, () -> x.deed(4, 0, 7));
        Check.refuses("deed: what 7", x, ARGUMENT, () -> x.deed(0, 9, 7));
        Check.refuses("deed: what -1", x, ARGUMENT, () -> x.deed(0, 0, -1));
    }

    private static void playsUntouched() {
        MailSync x = synced(3);
        x.plan(0, 0, 1, 0, 12);
        x.planRemoval(0, 0, 2);
        x.planNew(0, 0, 55, 5);
        x.plan(0, 0, 3, 1, 2);
        Check.same("playBack", x.playBack(0), 4);
        Look.message("flags", x, 0, 0, 1, 101, 12, 4);
        Look.message("the same flags", x, 0, 1, 3, 103, 2, 3);
        Look.message("new", x, 0, 2, 4, 55, 5, 6);
        Look.copied("flags", x, 0, 0, 0, 1, 101, 12, 4);
        Look.copied("the same flags", x, 0, 0, 1, 3, 103, 2, 3);
        Look.copied("new", x, 0, 0, 2, 4, 55, 5, 6);
        Check.same("removed without flag 0", x.vanished(0, 0, false), 2);
        Check.same("the copy keeps up", x.copyOf(0, 0, 1), 6);
        Check.same("nothing is due", x.syncCost(0, 0), 0);
        Look.deed("no deeds then", x, 0, 0, -1);
        for (int d = 1; d <= 4; d++) {
            Check.same("outcome " + d, x.outcome(d), 0);
            Check.same("noted " + d, x.noted(d - 1), d);
            Check.same("nameOf " + d, x.nameOf(d), d == 3 ? 4 : -1);
        }
        Check.same("told 5", x.told(5), 0);
        Check.same("told 6", x.told(6), 0);
        Check.same("nothing to play", x.playBack(0), 0);
    }

    private static MailSync touched(int policy) {
        MailSync x = synced(4);
        x.setPolicy(0, policy);
        x.plan(0, 0, 1, 1, 8);
        x.plan(0, 0, 1, 2, 4);
        x.planRemoval(0, 0, 2);
        x.plan(0, 0, 3, 1, 16);
        x.change(0, 1, 0, 5, -1);
        x.change(0, 2, 0, 33, -1);
        return x;
    }

    private static void playsTouched() {
        MailSync merge = touched(0);
        Check.same("merged", merge.playBack(0), 3);
        Look.message("merged flags", merge, 0, 0, 1, 101, 9, 7);
        Look.copied("merged flags", merge, 0, 0, 0, 1, 101, 9, 7);
        Check.same("outcome merged", merge.outcome(1), 1);
        Check.same("outcome removed", merge.outcome(2), 1);
        Check.same("outcome untouched", merge.outcome(3), 0);
        Check.same("removed", merge.box(0, 3), 3);
        Check.same("and from the copy", merge.copyOf(0, 0, 2), 3);
        Check.same("told 5", merge.told(5), 2);
        Check.same("the mark of the copy lags as before", merge.copyOf(0, 0, 1), 4);
        Check.same("what is due then", merge.syncCost(0, 0), 3);

        MailSync yield = touched(1);
        Check.same("yields", yield.playBack(0), 1);
        Look.message("the server's flags", yield, 0, 0, 1, 101, 5, 5);
        Look.copied("the copy stays", yield, 0, 0, 0, 1, 101, 2, 1);
        Check.same("refused", yield.outcome(1), 4);
        Check.same("refused", yield.outcome(2), 4);
        Check.same("untouched", yield.outcome(3), 0);
        Look.message("untouched", yield, 0, 2, 3, 103, 18, 7);
        Check.same("told 6", yield.told(6), 2);
        Check.same("told 5", yield.told(5), 0);
    }

    private static void playsFlagsThenRemoval() {
        MailSync x = synced(2);
        x.setPolicy(0, 1);
        x.plan(0, 0, 1, 1, 8);
        x.planRemoval(0, 0, 1);
        Check.same("its own flags do not touch it", x.playBack(0), 2);
        Check.same("removed", x.box(0, 3), 1);
        Check.same("from the copy, too", x.copyOf(0, 0, 2), 1);
    }

    private static void playsGone() {
        MailSync x = synced(2);
        x.plan(0, 0, 1, 1, 8);
        x.planRemoval(0, 0, 1);
        x.change(0, 1, 1, 1, -1);
        x.remove(0, 1);
        Check.same("gone", x.playBack(0), 0);
        Check.same("flags", x.outcome(1), 2);
        Check.same("removal", x.outcome(2), 2);
        Check.same("the copy has none either", x.copyOf(0, 0, 2), 1);
        Look.copied("the other one stays", x, 0, 0, 0, 2, 102, 2, 2);
        Check.same("the mark of the copy", x.copyOf(0, 0, 1), 2);
        Check.same("told 6", x.told(6), 2);
    }

    private static void playsInAnotherEra() {
        MailSync x = synced(2);
        x.plan(0, 0, 1, 1, 8);
        x.planRemoval(0, 0, 1);
        x.planNew(0, 0, 9, 9);
        x.renew(0);
        Check.same("another era", x.playBack(0), 1);
        Check.same("flags", x.outcome(1), 3);
        Check.same("removal", x.outcome(2), 3);
        Check.same("new", x.outcome(3), 0);
        Check.same("its name", x.nameOf(3), 3);
        Look.message("new", x, 0, 2, 3, 9, 9, 4);
        Check.same("not in the copy", x.copyOf(0, 0, 2), 2);
        Check.same("the era of the copy", x.copyOf(0, 0, 0), 1);
        Check.same("the mark of the copy", x.copyOf(0, 0, 1), 2);
        MailSync never = new MailSync();
        never.planNew(0, 2, 1, 1);
        Check.same("never synced", never.playBack(0), 1);
        Check.same("only on the server", never.box(2, 3), 1);
        Check.same("not in the copy", never.copyOf(0, 2, 2), 0);
        Check.same("era 0 stays", never.copyOf(0, 2, 0), 0);
        Check.same("mark 0 stays", never.copyOf(0, 2, 1), 0);
    }

    private static void playsWithoutRoom() {
        MailSync x = synced(19);
        x.planNew(0, 0, 1, 1);
        x.planNew(0, 0, 2, 2);
        x.planRemoval(0, 0, 1);
        x.planNew(0, 0, 3, 3);
        Check.same("one has no room", x.playBack(0), 3);
        Check.same("added", x.nameOf(1), 20);
        Check.same("no room", x.outcome(2), 5);
        Check.same("no name", x.nameOf(2), -1);
        Check.same("room again", x.nameOf(4), 21);
        Check.same("full", x.box(0, 3), 20);
        Check.same("the copy, too", x.copyOf(0, 0, 2), 20);
        Check.same("level", x.copyOf(0, 0, 1), x.box(0, 2));
        Check.same("told 6", x.told(6), 1);
    }

    // The copy lags, takes what it plays back, and gets what it missed in the middle of its names.
    private static void playsWhileLagging() {
        MailSync x = synced(1);
        x.add(0, 7, 7);
        x.planNew(0, 0, 8, 8);
        x.playBack(0);
        Look.copied("what it added", x, 0, 0, 1, 3, 8, 8, 3);
        Check.same("the mark stays", x.copyOf(0, 0, 1), 1);
        Check.same("both are sent", x.sync(0, 0), 2);
        Look.copied("in the middle", x, 0, 0, 1, 2, 7, 7, 2);
        Look.copied("behind it", x, 0, 0, 2, 3, 8, 8, 3);
    }

    private static void promise26() {
        playsUntouched();
        playsTouched();
        playsFlagsThenRemoval();
        playsGone();
        playsInAnotherEra();
        playsWithoutRoom();
        playsWhileLagging();
        MailSync x = new MailSync();
        Check.refuses("no machine", x, INDEX, () -> x.playBack(4));
        Check.refuses("no machine", x, INDEX, () -> x.playBack(-1));
    }

    private static void promises27to29() {
        MailSync x = new MailSync();
        for (int d : new int[] {-1, 0, 1, Integer.MIN_VALUE, Integer.MAX_VALUE}) {
            Check.same("no outcome", x.outcome(d), -1);
            Check.same("no name", x.nameOf(d), -1);
            Check.same("not noted", x.noted(d), -1);
        }
        for (int k = 0; k < 8; k++) {
            x.planNew(0, 0, k, 0);
        }
        Check.same("not played yet", x.outcome(1), -1);
        x.playBack(0);
        x.planNew(1, 1, 9, 0);
        x.planNew(0, 1, 9, 0);
        x.playBack(0);
        x.playBack(1);
        Check.same("ten are kept", x.noted(9), 9);
        Check.same("in the order of playing", x.noted(8), 10);
        Check.same("the first", x.noted(0), 1);
        Check.same("no eleventh", x.noted(10), -1);
        x.planNew(3, 2, 9, 0);
        x.playBack(3);
        Check.same("the first is dropped", x.noted(0), 2);
        Check.same("the last", x.noted(9), 11);
        Check.same("still ten", x.noted(10), -1);
        Check.same("dropped outcome", x.outcome(1), -1);
        Check.same("dropped name", x.nameOf(1), -1);
        Check.same("kept outcome", x.outcome(2), 0);
        Check.same("kept name", x.nameOf(2), 2);
        Check.same("name in another box", x.nameOf(9), 2);
        Check.same("name in another box", x.nameOf(10), 1);
        Check.same("before the first", x.noted(-1), -1);
    }

    private static void promise30() {
        MailSync x = synced(2);
        x.setPolicy(1, 1);
        x.plan(1, 0, 1, 1, 16);
        x.plan(0, 0, 1, 1, 32);
        x.planNew(3, 1, 4, 4);
        x.planNew(2, 1, 5, 5);
        int told = x.told(0) + x.told(1);
        // By machines, with boxes 0 and 1: 0 and 2, 1 and 2, 2 and 2, 2 and 2.
        Check.same("settle", x.settle(), 13);
        Check.same("told", x.told(0) + x.told(1) - told, 13);
        Check.same("machine 0 was first", x.outcome(2), 0);
        Check.same("machine 1 yields", x.outcome(1), 4);
        Check.same("noted in the order of the machines", x.noted(0), 2);
        Check.same("then", x.noted(1), 1);
        Check.same("then", x.noted(2), 4);
        Check.same("then", x.noted(3), 3);
        Check.same("machine 2 added first", x.nameOf(4), 1);
        for (int m = 0; m < 4; m++) {
            for (int b = 0; b < 3; b++) {
                Check.same("settled", x.different(m, b), 0);
                Check.holds("alike", x.areAlike(0, m, b));
            }
        }
        x.undo();
        Check.same("one change", x.told(0) + x.told(1), told);
        Check.same("a deed is back", x.deed(3, 0, 0), 3);
        Check.same("and another one", x.deed(2, 0, 0), 4);
        Check.same("and no outcome is noted", x.noted(0), -1);
        MailSync again = new MailSync();
        long fresh = again.checksum();
        Check.same("nothing to settle", again.settle(), 0);
        Check.same("but it is a record", again.undo(), 0);
        Check.same("undone", again.checksum(), fresh);
    }

    public static void main(String[] args) {
        promise21();
        promise22();
        promise23();
        promises24and25();
        promise26();
        promises27to29();
        promise30();
        Check.end();
    }
}
