import java.math.BigInteger;

/**
 * The boundaries of promises 31 to 33 and of the 512 calls: a test for each sentence that names one, with
 * that sentence above it. Arguments that are too small or too large are in RefusalTest, for all methods.
 */
final class UndoEdgeTest {
    private static final Class<?> ARGUMENT = IllegalArgumentException.class;
    private static final Class<?> STATE = IllegalStateException.class;

    // "Throws IllegalArgumentException if what is not 0 to 6"
    private static void whatIsTold() {
        MailSync x = new MailSync();
        Check.same("the least", x.told(0), 0);
        Check.same("the greatest", x.told(6), 0);
        Check.refuses("told 7", x, ARGUMENT, () -> x.told(7));
        Check.refuses("told -1", x, ARGUMENT, () -> x.told(-1));
    }

    // "0 messages that were sent in syncing, 1 names that were sent, 2 to 4 how often the cases 1 to 3 of
    // syncing applied": asking for the cost is no syncing
    private static void countsOfSyncing() {
        MailSync x = new MailSync();
        for (int k = 1; k <= 8; k++) {
            x.add(0, k, 1);
        }
        x.syncCost(0, 0);
        Look.told("only asked", x, 0, 0, 0, 0, 0, 0, 0);
        x.sync(0, 0);
        Look.told("case 1", x, 8, 0, 1, 0, 0, 0, 0);
        x.remove(0, 1);
        x.change(0, 2, 1, 2, -1);
        x.syncCost(0, 0);
        x.sync(0, 0);
        Look.told("case 2", x, 9, 1, 1, 1, 0, 0, 0);
        x.clean(0);
        x.add(0, 9, 9);
        x.syncCost(0, 0);
        x.sync(0, 0);
        Look.told("case 3", x, 10, 2, 1, 1, 1, 0, 0);
    }

    // "5 deeds with the outcome 1, 6 deeds with an outcome above 1": those that syncing drops count, too;
    // those that are taken back do not
    private static void countsOfOutcomes() {
        MailSync x = new MailSync();
        x.add(0, 1, 1);
        x.add(1, 1, 1);
        x.sync(0, 0);
        x.sync(0, 1);
        x.plan(0, 0, 1, 1, 2);
        x.takeBack(0, 1);
        x.plan(0, 0, 1, 1, 2);
        x.playBack(0);
        Look.told("outcome 0 does not count", x, 2, 0, 2, 0, 0, 0, 0);
        x.plan(0, 0, 1, 1, 8);
        x.change(0, 1, 1, 4, -1);
        x.playBack(0);
        Look.told("outcome 1", x, 2, 0, 2, 0, 0, 1, 0);
        x.plan(0, 0, 1, 1, 16);
        x.plan(0, 1, 1, 1, 16);
        x.remove(0, 1);
        x.renew(1);
        x.sync(0, 0);
        Look.told("outcome 2 by syncing", x, 2, 1, 2, 1, 0, 1, 1);
        x.sync(0, 1);
        Look.told("outcome 3 by syncing", x, 3, 1, 3, 1, 0, 1, 2);
    }

    // "IllegalStateException if there is none"
    private static void undoOfNothing() {
        MailSync x = new MailSync();
        Check.refuses("of a new one", x, STATE, x::undo);
        x.add(0, 1, 1);
        Check.same("of one", x.undo(), 0);
        Check.refuses("once more", x, STATE, x::undo);
        Look.box("as at first", x, 0, 1, 1, 0, 0, 0, 0);
    }

    // "At most 4 records are kept; when one more is made, the oldest is dropped."; "Returns how many records
    // are left."
    private static void fourRecords() {
        for (int made = 1; made <= 9; made++) {
            MailSync x = new MailSync();
            for (int k = 1; k <= made; k++) {
                x.add(0, k, 1);
            }
            int kept = Math.min(made, 4);
            for (int left = kept - 1; left >= 0; left--) {
                Check.same("undo of " + made, x.undo(), left);
                Check.same("messages then", x.box(0, 3), made - kept + left);
            }
            Check.refuses("no more of " + made, x, STATE, x::undo);
            Check.same("what stays", x.box(0, 3), made - kept);
        }
    }

    // "undo() restores the latest one and removes it.": undo makes no record, so that two go back two calls
    private static void undoIsNotUndone() {
        MailSync x = new MailSync();
        x.add(0, 1, 1);
        x.add(0, 2, 1);
        x.add(0, 3, 1);
        Check.same("undo", x.undo(), 2);
        Check.same("two are left", x.box(0, 3), 2);
        Check.same("undo", x.undo(), 1);
        Check.same("one is left", x.box(0, 3), 1);
        for (int k = 4; k <= 7; k++) {
            Check.same("add", x.add(0, k, 1), k - 2);
        }
        for (int left = 3; left >= 0; left--) {
            Check.same("undo", x.undo(), left);
        }
        Look.message("the first one stands", x, 0, 0, 1, 1, 1, 1);
        Look.message("alone", x, 0, 1, -1, -1, -1, -1);
        Check.refuses("its record is dropped", x, STATE, x::undo);
    }

    /** The call must answer what is due, make a record, and change nothing else. */
    private static void recordsOnly(String what, MailSync x, long records, Check.Call call, long due) {
        String before = Look.all(x);
        long sum = x.checksum();
        Check.same(what, call.answer(), due);
        Check.told(what + " changes nothing that can be asked", Look.all(x), before);
        Check.same(what + " makes a record; the checksum", x.checksum(), sum + 1);
        Check.same(what + " makes a record; undo", x.undo(), records);
        Check.same(what + " is undone; the checksum", x.checksum(), sum);
    }

    // "when it ends normally (also if nothing changes)"
    private static void recordsOfNothing() {
        MailSync x = new MailSync();
        recordsOnly("clean of none", x, 0, () -> x.clean(0), 0);
        recordsOnly("the same policy", x, 0, () -> x.setPolicy(2, 0), 0);
        recordsOnly("no deeds", x, 0, () -> x.playBack(1), 0);
        x.add(0, 1, 6);
        recordsOnly("the same flags", x, 1, () -> x.change(0, 1, 1, 2, -1), 6);
        MailSync y = new MailSync();
        y.add(0, 1, 6);
        y.sync(0, 0);
        y.plan(0, 0, 1, 1, 4);
        recordsOnly("the same deed", y, 3, () -> y.plan(0, 0, 1, 1, 4), 1);
        MailSync z = new MailSync();
        z.sync(0, 0);
        long sum = z.checksum();
        Check.same("a sync of nothing", z.sync(0, 0), 0);
        Check.same("it counts, so it changes the checksum", z.checksum(), sum + 1 + 31L * 31 * 31 * 31);
        Check.same("and makes a record", z.undo(), 1);
        Check.same("and is undone", z.checksum(), sum);
    }

    // "A call that throws an exception changes nothing.": of four records, none is dropped
    private static void refusedCallsKeepRecords() {
        MailSync x = new MailSync();
        for (int k = 1; k <= 4; k++) {
            x.add(0, k, 0);
        }
        for (int k = 1; k <= 5; k++) {
            Check.refuses("refused", x, STATE, () -> x.remove(0, 1));
        }
        for (int left = 3; left >= 0; left--) {
            Check.same("undo", x.undo(), left);
            Check.same("messages then", x.box(0, 3), left);
        }
    }

    /** Nothing is as in a new object: eras, horizons, what vanished, policies, deeds, outcomes and counts. */
    private static MailSync used() {
        MailSync x = new MailSync();
        for (int b = 0; b < 3; b++) {
            x.renew(b);
            for (int k = 1; k <= 10; k++) {
                x.add(b, k, k % 2 + 2 * b);
            }
        }
        for (int m = 0; m < 4; m++) {
            x.setPolicy(m, 1);
            for (int b = 0; b < 3; b++) {
                x.sync(m, b);
            }
            x.planNew(m, 1, 5, 5);
            x.playBack(m);
            x.plan(m, 0, 2, 0, 21);
            x.planRemoval(m, 2, 4);
        }
        for (int b = 0; b < 3; b++) {
            x.clean(b);
            x.change(b, 2, 1, 32, -1);
            x.change(b, 4, 1, 1, -1);
            x.remove(b, 4);
            x.change(b, 6, 1, 1, -1);
            x.remove(b, 6);
        }
        return x;
    }

    // "records everything (also the counts of told()), as it was before the call": after four calls that
    // change all of it
    private static void everythingComesBack() {
        MailSync x = used();
        String before = Look.all(x);
        long sum = x.checksum();
        x.settle();
        x.renew(0);
        x.setPolicy(0, 0);
        x.planNew(3, 2, 5, 5);
        Check.same("four", x.undo(), 3);
        x.undo();
        x.undo();
        Check.same("back", x.undo(), 0);
        Check.told("all that can be asked", Look.all(x), before);
        Check.same("the checksum, but for the records", x.checksum(), sum - 4);
        Check.same("the number of the next deed", x.planNew(3, 2, 5, 5), 13);
        for (int m = 0; m < 4; m++) {
            Check.same("the policy", x.setPolicy(m, 1), 1);
        }
        Check.same("the next name", x.add(0, 1, 1), 11);
        // Marks: the era 1, ten messages 11, five removals 16, then a change, and twice a change and a removal.
        Check.same("the mark of what vanished last", x.vanished(0, 5, true), 21);
        Check.same("the horizon", x.box(0, 4), 12);
    }

    private static BigInteger mix(BigInteger h, long v) {
        return h.multiply(BigInteger.valueOf(31)).add(BigInteger.valueOf(v));
    }

    private static BigInteger mixBox(BigInteger before, MailSync x, int b) {
        BigInteger h = before;
        for (int what = 0; what < 6; what++) {
            h = mix(h, x.box(b, what));
        }
        for (int k = 0; k < x.box(b, 3); k++) {
            for (int what = 0; what < 4; what++) {
                h = mix(h, x.message(b, k, what));
            }
        }
        for (int k = 0; k < x.box(b, 5); k++) {
            h = mix(mix(h, x.vanished(b, k, false)), x.vanished(b, k, true));
        }
        return h;
    }

    private static BigInteger mixMachine(BigInteger before, MailSync x, int m) {
        BigInteger h = before;
        for (int b = 0; b < 3; b++) {
            for (int what = 0; what < 4; what++) {
                h = mix(h, x.copyOf(m, b, what));
            }
            for (int k = 0; k < x.copyOf(m, b, 2); k++) {
                for (int what = 0; what < 4; what++) {
                    h = mix(h, x.copied(m, b, k, what));
                }
            }
        }
        for (int k = 0; x.deed(m, k, 0) != -1; k++) {
            for (int what = 0; what < 7; what++) {
                h = mix(h, x.deed(m, k, what));
            }
        }
        return h;
    }

    /** The checksum worked out without any wrapping; its lowest 64 bits are what long arithmetic keeps. */
    private static BigInteger sum(MailSync x, int[] policies, int records) {
        BigInteger h = BigInteger.valueOf(12861);
        for (int b = 0; b < 3; b++) {
            h = mixBox(h, x, b);
        }
        for (int m = 0; m < 4; m++) {
            h = mixMachine(mix(h, policies[m]), x, m);
        }
        for (int k = 0; x.noted(k) != -1; k++) {
            h = mix(mix(h, x.noted(k)), x.outcome(x.noted(k)));
        }
        for (int what = 0; what < 7; what++) {
            h = mix(h, x.told(what));
        }
        return mix(h, records);
    }

    // "h becomes 31 * h + v (long arithmetic that wraps)": of a new object, and with all that is full
    private static void checksumWraps() {
        MailSync x = new MailSync();
        BigInteger fresh = sum(x, new int[4], 0);
        Check.holds("it is far greater than a long", fresh.bitLength() > 300);
        Check.same("of a new one", x.checksum(), fresh.longValue());
        for (int b = 0; b < 3; b++) {
            for (int k = 1; k <= 20; k++) {
                x.add(b, 999, 63);
            }
        }
        x.settle();
        for (int b = 0; b < 3; b++) {
            for (int name = 1; name <= 7; name++) {
                x.remove(b, name);
                x.add(b, 0, 62);
            }
        }
        for (int m = 0; m < 4; m++) {
            x.setPolicy(m, m % 2);
            x.plan(m, 0, 1, 0, 21);
            x.planRemoval(m, 1, 1);
            x.plan(m, 1, 20, 2, 21);
            for (int k = 0; k < 5; k++) {
                x.planNew(m, m % 3, 999, 63);
            }
        }
        int[] policies = {0, 1, 0, 1};
        Check.same("eight deeds each", x.checksum(), sum(x, policies, 4).longValue());
        x.playBack(0);
        x.playBack(1);
        Check.same("ten outcomes", x.checksum(), sum(x, policies, 4).longValue());
        Check.same("there are ten", x.noted(9), 16);
    }

    // ".. the number of records."
    private static void checksumTellsRecords() {
        MailSync x = new MailSync();
        long none = x.checksum();
        for (int records = 1; records <= 6; records++) {
            x.clean(0);
            Check.same("after " + records, x.checksum(), none + Math.min(records, 4));
        }
        for (int left = 3; left >= 0; left--) {
            x.undo();
            Check.same("with " + left + " left", x.checksum(), none + left);
        }
    }

    // "An object is used for at most 512 calls": the last of them is as good as the first
    private static void eraAfter512Calls() {
        MailSync x = new MailSync();
        for (int call = 1; call <= 511; call++) {
            Check.same("call " + call, x.renew(2), call + 1);
        }
        Check.same("call 512", x.box(2, 2), 511);
    }

    private static void nameAfter512Calls() {
        MailSync x = new MailSync();
        for (int k = 1; k <= 255; k++) {
            Check.same("add", x.add(0, 1, 1), k);
            Check.same("remove", x.remove(0, k), 0);
        }
        Check.same("call 511", x.add(0, 1, 1), 256);
        Check.same("call 512", x.box(0, 4), 2 * (255 - 6));
    }

    private static void deedAfter512Calls() {
        MailSync x = new MailSync();
        for (int k = 1; k <= 255; k++) {
            Check.same("planNew", x.planNew(k % 4, 0, 1, 1), k);
            Check.same("takeBack", x.takeBack(k % 4, k), 0);
        }
        Check.same("call 511", x.planNew(0, 2, 1, 1), 256);
        Check.same("call 512", x.view(0, 2, 0, 0), -256);
    }

    // The document sets no limit to a copy: one that lags keeps what the box has lost, and takes what its
    // machine plays back. This is about as far as 512 calls can bring it.
    private static void copyAfter512Calls() {
        MailSync x = new MailSync();
        x.sync(0, 0);
        for (int round = 0; round < 25; round++) {
            for (int half = 0; half < 2; half++) {
                planEight(x, round);
                Check.same("all are added", x.playBack(0), 8);
            }
            Check.same("and removed", x.clean(0), 16);
        }
        Look.copyOf("grown", x, 0, 0, 1, 16, 400, 400);
        Look.copied("the first", x, 0, 0, 0, 1, 0, 1, 1);
        Look.copied("the last", x, 0, 0, 399, 400, 24, 1, 784);
        Look.view("the last", x, 0, 0, 399, 400, 24, 1);
        Check.same("behind it", x.copied(0, 0, 400, 0), -1);
        Check.same("the box is empty", x.different(0, 0), 400);
        Check.same("nothing is sent", x.sync(0, 0), 0);
        Check.same("all are dropped", x.copyOf(0, 0, 2), 0);
        Check.same("undo", x.undo(), 3);
        Look.copyOf("undone", x, 0, 0, 1, 16, 400, 400);
    }

    private static void planEight(MailSync x, int content) {
        for (int k = 0; k < 8; k++) {
            x.planNew(0, 0, content, 1);
        }
    }

    // "Creates a server ..": each object has one of its own
    private static void objectsStayApart() {
        MailSync x = new MailSync();
        MailSync y = new MailSync();
        String fresh = Look.all(y);
        x.add(0, 1, 1);
        x.planNew(0, 0, 2, 2);
        x.settle();
        x.setPolicy(1, 1);
        Check.told("another one is as new", Look.all(y), fresh);
        Check.refuses("with no record", y, STATE, y::undo);
        Check.same("its first deed", y.planNew(0, 0, 2, 2), 1);
        Check.same("its first policy", y.setPolicy(1, 1), 0);
    }

    public static void main(String[] args) {
        whatIsTold();
        countsOfSyncing();
        countsOfOutcomes();
        undoOfNothing();
        fourRecords();
        undoIsNotUndone();
        recordsOfNothing();
        refusedCallsKeepRecords();
        everythingComesBack();
        checksumWraps();
        checksumTellsRecords();
        eraAfter512Calls();
        nameAfter512Calls();
        deedAfter512Calls();
        copyAfter512Calls();
        objectsStayApart();
        Check.end();
    }
}
