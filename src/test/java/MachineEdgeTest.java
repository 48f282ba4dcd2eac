/**
 * The boundaries of promises 13 to 20: a test for each sentence that names one, with that sentence
 * above it. Arguments that are too small or too large are in RefusalTest, for all methods.
 */
final class MachineEdgeTest {
    private static final int LEAST = Integer.MIN_VALUE;
    private static final int MOST = Integer.MAX_VALUE;
    private static final Class<?> INDEX = IndexOutOfBoundsException.class;
    private static final Class<?> ARGUMENT = IllegalArgumentException.class;

    /** A box 0 with the messages 1 and so on, with flag 0. */
    private static MailSync with(int count) {
        MailSync x = new MailSync();
        for (int k = 1; k <= count; k++) {
            x.add(0, 100 + k, 1);
        }
        return x;
    }

    /** The cost must be told before, without a change, and there is none left behind. */
    private static void syncs(String when, MailSync x, int machine, int due) {
        long before = x.checksum();
        Check.same(when + ": syncCost", x.syncCost(machine, 0), due);
        Check.same(when + ": syncCost changes nothing", x.checksum(), before);
        Check.same(when + ": sync", x.sync(machine, 0), due);
        Check.same(when + ": syncCost then", x.syncCost(machine, 0), 0);
    }

    private static void removeFromTo(MailSync x, int first, int last) {
        for (int name = first; name <= last; name++) {
            x.remove(0, name);
        }
    }

    // "There are four machines, 0 to 3. A machine has a copy of each box"
    private static void fourMachines() {
        MailSync x = with(1);
        x.add(2, 7, 7);
        x.sync(0, 0);
        x.sync(3, 2);
        Look.copyOf("machine 0, box 0", x, 0, 0, 1, 1, 1, 1);
        Look.copyOf("machine 0, box 2", x, 0, 2, 0, 0, 0, 0);
        Look.copyOf("machine 3, box 0", x, 3, 0, 0, 0, 0, 0);
        Look.copyOf("machine 3, box 2", x, 3, 2, 1, 1, 1, 1);
        Look.copied("machine 3, box 2", x, 3, 2, 0, 1, 7, 7, 1);
        Check.refuses("machine 4", x, INDEX, () -> x.sync(4, 0));
        Check.refuses("machine -1", x, INDEX, () -> x.sync(-1, 0));
    }

    // "It has a policy (0 merge, as at first, or 1 yield)"; "Returns the previous policy."
    private static void policies() {
        MailSync x = new MailSync();
        for (int m = 0; m < 4; m++) {
            Check.same("at first", x.setPolicy(m, 1), 0);
        }
        for (int m = 0; m < 4; m++) {
            Check.same("the same once more", x.setPolicy(m, 1), 1);
            Check.same("and back", x.setPolicy(m, 0), 1);
        }
        Check.refuses("policy 2", x, ARGUMENT, () -> x.setPolicy(0, 2));
        Check.refuses("policy -1", x, ARGUMENT, () -> x.setPolicy(0, -1));
        Check.same("a refused one is not set", x.setPolicy(0, 0), 0);
    }

    // "an era (0 at first)": the first sync of an empty box is one to another era, with nothing to send
    private static void syncEmptyBox() {
        MailSync x = new MailSync();
        syncs("empty", x, 0, 0);
        Look.copyOf("empty", x, 0, 0, 1, 0, 0, 0);
        Look.told("empty", x, 0, 0, 1, 0, 0, 0, 0);
        syncs("again", x, 0, 0);
        Look.told("again", x, 0, 0, 1, 1, 0, 0, 0);
    }

    // "all messages of the box are sent", with a full box
    private static void syncFullBox() {
        MailSync x = with(20);
        syncs("full", x, 0, 20);
        Look.copyOf("full", x, 0, 0, 1, 20, 20, 20);
        for (int k = 0; k < 20; k++) {
            Look.copied("full", x, 0, 0, k, k + 1, 101 + k, 1, k + 1);
        }
        Look.copied("full", x, 0, 0, 20, -1, -1, -1, -1);
        Look.told("full", x, 20, 0, 1, 0, 0, 0, 0);
    }

    // "Otherwise, if the mark of the copy is not less than the horizon": machine 0 is one mark short of it,
    // machine 1 has just that mark, machine 2 one more
    private static void aroundTheHorizon() {
        MailSync x = with(9);
        x.sync(0, 0);
        x.remove(0, 1);
        x.sync(1, 0);
        x.remove(0, 2);
        x.sync(2, 0);
        removeFromTo(x, 3, 7);
        Look.box("the horizon is 10", x, 0, 1, 10, 16, 2, 10, 6);
        Look.told("before", x, 24, 0, 3, 0, 0, 0, 0);
        syncs("one mark short", x, 0, 2);
        Look.told("one mark short", x, 24, 2, 3, 0, 1, 0, 0);
        syncs("just at the horizon", x, 1, 6);
        Look.told("just at the horizon", x, 24, 8, 3, 1, 1, 0, 0);
        syncs("one mark above", x, 2, 5);
        Look.told("one mark above", x, 24, 13, 3, 2, 1, 0, 0);
        for (int m = 0; m < 3; m++) {
            Look.copyOf("then", x, m, 0, 1, 16, 2, 2);
            Look.copied("then", x, m, 0, 0, 8, 108, 1, 8);
            Look.copied("then", x, m, 0, 1, 9, 109, 1, 9);
        }
    }

    // The same with the mark 0 and the horizon 0: what vanished is told, though the copy never had it.
    private static void markAndHorizonAreZero() {
        MailSync x = new MailSync();
        x.sync(0, 0);
        x.add(0, 101, 1);
        x.add(0, 102, 2);
        x.add(0, 103, 3);
        x.remove(0, 1);
        syncs("from the mark 0", x, 0, 3);
        Look.told("from the mark 0", x, 2, 1, 1, 1, 0, 0, 0);
        Look.copyOf("from the mark 0", x, 0, 0, 1, 4, 2, 2);
    }

    // "all messages of the box whose mark is greater than that of the copy are sent, and the names of all
    // entries of the list of what vanished whose mark is greater than that of the copy"
    private static void justTheSameMark() {
        MailSync x = with(2);
        x.sync(0, 0);
        syncs("the last message has the mark of the copy", x, 0, 0);
        x.change(0, 1, 1, 2, -1);
        syncs("one mark later", x, 0, 1);
        Look.copied("one mark later", x, 0, 0, 0, 1, 101, 3, 3);
        x.remove(0, 2);
        syncs("an entry one mark later", x, 0, 1);
        syncs("the entry has the mark of the copy", x, 0, 0);
        Look.told("then", x, 3, 1, 1, 4, 0, 0, 0);
        Look.copyOf("then", x, 0, 0, 1, 4, 1, 1);
    }

    // "the names of all messages of the box; messages of the copy with other names are dropped": of none
    private static void compareWithAnEmptyBox() {
        MailSync x = with(7);
        x.sync(0, 0);
        x.clean(0);
        Check.same("the horizon", x.box(0, 4), 8);
        syncs("no names to send", x, 0, 0);
        Look.told("no names to send", x, 7, 0, 1, 0, 1, 0, 0);
        Look.copyOf("all are dropped", x, 0, 0, 1, 14, 0, 0);
    }

    // .. and of 20 that are all sent, too
    private static void compareWithAFullBox() {
        MailSync x = with(20);
        x.sync(0, 0);
        removeFromTo(x, 1, 7);
        for (int k = 1; k <= 7; k++) {
            x.add(0, 200 + k, 2);
        }
        for (int name = 8; name <= 20; name++) {
            x.change(0, name, 1, 2, -1);
        }
        syncs("20 messages and 20 names", x, 0, 40);
        Look.told("20 messages and 20 names", x, 40, 20, 1, 0, 1, 0, 0);
        Look.copyOf("then", x, 0, 0, 1, 47, 20, 20);
        Look.copied("replaced", x, 0, 0, 0, 8, 108, 3, 35);
        Look.copied("replaced", x, 0, 0, 12, 20, 120, 3, 47);
        Look.copied("added", x, 0, 0, 13, 21, 201, 2, 28);
        Look.copied("added", x, 0, 0, 19, 27, 207, 2, 34);
        Check.same("as on the server", x.different(0, 0), 0);
    }

    // "1. If the era of the copy is not that of the box": also if its mark is below the horizon
    private static void anotherEraBelowTheHorizon() {
        MailSync x = with(3);
        x.sync(0, 0);
        x.renew(0);
        Check.same("the horizon", x.box(0, 4), 4);
        syncs("another era", x, 0, 3);
        Look.told("another era", x, 6, 0, 2, 0, 0, 0, 0);
        Look.copyOf("another era", x, 0, 0, 2, 4, 3, 3);
        x.renew(0);
        x.renew(0);
        x.clean(0);
        syncs("two eras later, with nothing left", x, 0, 0);
        Look.told("two eras later", x, 6, 0, 3, 0, 0, 0, 0);
        Look.copyOf("two eras later", x, 0, 0, 4, 9, 0, 0);
    }

    // "deeds of this box with flags or removals are dropped (outcome 3)"; "(Outcomes 3 are noted in the
    // order of the deeds, too.)": the messages have the same names in both eras
    private static void anotherEraDropsDeeds() {
        MailSync x = with(2);
        x.add(1, 7, 7);
        x.sync(0, 0);
        x.sync(0, 1);
        x.sync(1, 0);
        x.plan(0, 0, 2, 1, 4);
        x.plan(0, 1, 1, 1, 8);
        x.planNew(0, 0, 5, 5);
        x.planRemoval(0, 0, 1);
        x.plan(1, 0, 1, 1, 4);
        x.renew(0);
        syncs("another era", x, 0, 2);
        Look.noted("another era", x, 1, 3, 4, 3);
        Look.deeds("those of another box and new ones stay", x, 0, 2, 3);
        Look.deed("that of another box", x, 0, 0, 2, 0, 1, 1, 8, 0, -1);
        Look.deeds("those of another machine stay", x, 1, 5);
        Check.same("told 6", x.told(6), 2);
    }

    // Outcome 3 comes before outcome 2: the message is gone in the other era as well.
    private static void anotherEraWithoutTheMessage() {
        MailSync x = with(1);
        x.sync(0, 0);
        x.plan(0, 0, 1, 1, 4);
        x.remove(0, 1);
        x.renew(0);
        syncs("nothing left", x, 0, 0);
        Look.noted("nothing left", x, 1, 3);
        Look.deeds("nothing left", x, 0);
        Look.viewNames("nothing left", x, 0, 0);
    }

    // "Then deeds of this box with flags or removals for messages that the copy does not have are dropped
    // (outcome 2), in their order.": by comparing, and by marks
    private static void deedsForWhatIsGone() {
        for (int count = 6; count <= 7; count++) {
            MailSync x = with(8);
            x.sync(0, 0);
            x.planRemoval(0, 0, 6);
            x.plan(0, 0, 2, 1, 4);
            x.plan(0, 0, 8, 1, 4);
            x.planNew(0, 0, 5, 5);
            x.planRemoval(0, 0, 2);
            removeFromTo(x, 1, count);
            syncs("gone", x, 0, count == 6 ? 6 : 1);
            Check.same("by marks", x.told(3), count == 6 ? 1 : 0);
            Check.same("by comparing", x.told(4), count == 6 ? 0 : 1);
            Look.noted("gone", x, 1, 2, 2, 2, 5, 2);
            Look.deeds("what stays", x, 0, 3, 4);
        }
    }

    // "Messages that are sent replace those with the same name in the copy, or are added to it.": before,
    // between and behind those that the copy has
    private static void sentInBetween() {
        MailSync x = new MailSync();
        x.sync(0, 0);
        x.add(0, 1, 1);
        x.planNew(0, 0, 2, 2);
        x.playBack(0);
        x.add(0, 3, 3);
        x.planNew(0, 0, 4, 4);
        x.playBack(0);
        x.add(0, 5, 5);
        Look.copied("the copy has two", x, 0, 0, 0, 2, 2, 2, 2);
        Look.copied("the copy has two", x, 0, 0, 1, 4, 4, 4, 4);
        Look.copyOf("the copy has two", x, 0, 0, 1, 0, 2, 2);
        syncs("all five", x, 0, 5);
        for (int k = 1; k <= 5; k++) {
            Look.copied("all five", x, 0, 0, k - 1, k, k, k, k);
        }
        Look.copyOf("all five", x, 0, 0, 1, 5, 5, 5);
    }

    // "3 the number of messages of the view": none, and more than the box may have
    private static void lengthOfTheView() {
        MailSync x = with(20);
        x.sync(0, 0);
        for (int k = 1; k <= 8; k++) {
            x.planNew(0, 0, 300 + k, k);
        }
        Look.copyOf("20 and 8 new ones", x, 0, 0, 1, 20, 20, 28);
        Look.view("the last one of the copy", x, 0, 0, 19, 20, 120, 1);
        Look.view("the first new one", x, 0, 0, 20, -1, 301, 1);
        Look.view("the last new one", x, 0, 0, 27, -8, 308, 8);
        Look.view("behind it", x, 0, 0, 28, -1, -1, -1);
        MailSync y = with(8);
        y.sync(0, 0);
        for (int name = 1; name <= 8; name++) {
            y.planRemoval(0, 0, name);
        }
        Look.copyOf("8 removals of 8", y, 0, 0, 1, 8, 8, 0);
        Look.viewNames("8 removals of 8", y, 0, 0);
    }

    // "NONE if there is no such position.": in a copy
    private static void positionsInACopy() {
        MailSync x = with(2);
        x.sync(0, 0);
        x.planRemoval(0, 0, 1);
        Look.copied("a removal does not matter", x, 0, 0, 0, 1, 101, 1, 1);
        Look.copied("the last", x, 0, 0, 1, 2, 102, 1, 2);
        for (int k : new int[] {2, -1, LEAST, MOST, 1 << 30}) {
            Look.copied("position " + k, x, 0, 0, k, -1, -1, -1, -1);
            Look.copied("of an empty copy, position " + k, x, 1, 0, k, -1, -1, -1, -1);
        }
        Check.refuses("no position, and what 4", x, ARGUMENT, () -> x.copied(0, 0, 9, 4));
        Check.refuses("no position, and box 3", x, INDEX, () -> x.copied(0, 3, 9, 0));
    }

    // "NONE if there is no such position.": in a view
    private static void positionsInAView() {
        MailSync x = with(2);
        x.sync(0, 0);
        x.planRemoval(0, 0, 1);
        Look.view("the only one", x, 0, 0, 0, 2, 102, 1);
        for (int k : new int[] {1, 2, -1, LEAST, MOST, 1 << 30}) {
            Look.view("position " + k, x, 0, 0, k, -1, -1, -1);
            Look.view("of an empty view, position " + k, x, 1, 0, k, -1, -1, -1);
        }
        Check.refuses("no position, and what 3", x, ARGUMENT, () -> x.view(0, 0, 9, 3));
        Check.refuses("no position, and box 3", x, INDEX, () -> x.view(0, 3, 9, 0));
    }

    // ".. without those for which there is a removal among its deeds": the first, the last, one in between
    private static void removalsInAView() {
        MailSync x = with(5);
        x.add(1, 7, 7);
        x.sync(0, 0);
        x.sync(0, 1);
        x.sync(1, 0);
        x.planRemoval(0, 0, 1);
        Look.viewNames("without the first", x, 0, 0, 2, 3, 4, 5);
        x.planRemoval(0, 0, 5);
        Look.viewNames("without the last", x, 0, 0, 2, 3, 4);
        x.planRemoval(0, 0, 3);
        Look.viewNames("without the middle", x, 0, 0, 2, 4);
        Look.viewNames("the same name in another box", x, 0, 1, 1);
        Look.viewNames("the same name on another machine", x, 1, 0, 1, 2, 3, 4, 5);
    }

    // "its flags are without those that are taken off, and with those that are added"
    private static void flagsInAView() {
        MailSync x = with(2);
        x.add(1, 7, 7);
        x.sync(0, 0);
        x.sync(0, 1);
        x.plan(0, 0, 1, 0, 63);
        Look.view("all flags", x, 0, 0, 0, 1, 101, 63);
        x.plan(0, 0, 1, 2, 63);
        Look.view("no flags", x, 0, 0, 0, 1, 101, 0);
        x.plan(0, 0, 1, 1, 32);
        Look.view("the greatest flag", x, 0, 0, 0, 1, 101, 32);
        Look.view("another message", x, 0, 0, 1, 2, 102, 1);
        Look.view("the same name in another box", x, 0, 1, 0, 1, 7, 7);
        Look.copied("the copy has its own", x, 0, 0, 0, 1, 101, 1, 1);
        x.planRemoval(0, 0, 1);
        Look.viewNames("a removal, too", x, 0, 0, 2);
    }

    // "behind them come its new messages, in the order of the deeds, with 0 minus the number of the deed as
    // their names": also without any copy
    private static void newOnesInAView() {
        MailSync x = new MailSync();
        x.planNew(2, 1, 0, 0);
        x.planNew(2, 0, 999, 63);
        x.planNew(2, 1, 5, 6);
        Look.viewNames("box 1", x, 2, 1, -1, -3);
        Look.viewNames("box 0", x, 2, 0, -2);
        Look.viewNames("box 2", x, 2, 2);
        Look.view("least content, no flags", x, 2, 1, 0, -1, 0, 0);
        Look.view("greatest content, all flags", x, 2, 0, 0, -2, 999, 63);
        Look.view("behind it", x, 2, 1, 1, -3, 5, 6);
    }

    // "Counts the names for which a view and a box do not show the same"
    private static void differentInNothingAndInAll() {
        MailSync x = new MailSync();
        Check.same("both empty", x.different(0, 0), 0);
        MailSync y = with(20);
        Check.same("an empty view, a full box", y.different(0, 0), 20);
        y.sync(0, 0);
        Check.same("both full", y.different(0, 0), 0);
        for (int k = 1; k <= 8; k++) {
            y.planNew(0, 0, 100 + k, 1);
        }
        Check.same("a new message of the view counts, too", y.different(0, 0), 8);
        y.clean(0);
        Check.same("a view of 28, an empty box", y.different(0, 0), 28);
        for (int k = 1; k <= 20; k++) {
            y.add(0, 100 + k, 1);
        }
        Check.same("28 and 20 other names", y.different(0, 0), 48);
    }

    // "a message that only one of both has, or one with other content or flags .. eras do not matter"
    private static void differentInOne() {
        MailSync x = with(2);
        x.sync(0, 0);
        x.renew(0);
        Check.same("eras do not matter", x.different(0, 0), 0);
        x.change(0, 2, 0, 33, -1);
        Check.same("one has one flag more", x.different(0, 0), 1);
        x.change(0, 2, 0, 1, -1);
        Check.same("marks do not matter", x.different(0, 0), 0);
        x.remove(0, 1);
        Check.same("one is only in the view", x.different(0, 0), 1);
        x.renew(0);
        Check.same("name 1 with another content, name 2 only in the view", x.different(0, 0), 2);
        x.add(0, 102, 1);
        Check.same("name 2 is the same again", x.different(0, 0), 1);
        x.planRemoval(0, 0, 2);
        Check.same("name 2 is only in the box", x.different(0, 0), 2);
    }

    // "Tells whether two machines have views of a box with the same names, contents and flags."
    private static void alike() {
        MailSync x = with(3);
        Check.holds("both empty", x.areAlike(0, 3, 0));
        x.sync(0, 0);
        Check.holds("one has three, one none", !x.areAlike(0, 3, 0) && !x.areAlike(3, 0, 0));
        x.sync(1, 0);
        x.renew(0);
        x.sync(3, 0);
        Check.holds("other eras and marks", x.areAlike(0, 3, 0) && x.areAlike(3, 0, 0));
        x.plan(0, 0, 3, 1, 1);
        Check.holds("a deed that shows nothing", x.areAlike(0, 1, 0));
        x.plan(0, 0, 3, 1, 32);
        Check.holds("only the last one has other flags", !x.areAlike(0, 1, 0));
        x.planRemoval(0, 0, 3);
        Check.holds("only the last one is not there", !x.areAlike(0, 1, 0) && !x.areAlike(1, 0, 0));
        x.planRemoval(1, 0, 1);
        Check.holds("two and two with other names", !x.areAlike(0, 1, 0));
        Check.holds("another box", x.areAlike(0, 1, 1));
        x.planNew(1, 0, 5, 5);
        Check.holds("a machine and itself", x.areAlike(1, 1, 0));
    }

    private static void alikeButForContent() {
        MailSync x = with(2);
        x.sync(0, 0);
        x.remove(0, 2);
        x.renew(0);
        x.add(0, 999, 1);
        x.sync(1, 0);
        Check.holds("only the last one has another content", !x.areAlike(0, 1, 0));
        x.planNew(2, 0, 4, 4);
        x.planNew(3, 0, 4, 4);
        Check.holds("new ones have other names", !x.areAlike(2, 3, 0));
    }

    public static void main(String[] args) {
        fourMachines();
        policies();
        syncEmptyBox();
        syncFullBox();
        aroundTheHorizon();
        markAndHorizonAreZero();
        justTheSameMark();
        compareWithAnEmptyBox();
        compareWithAFullBox();
        anotherEraBelowTheHorizon();
        anotherEraDropsDeeds();
        anotherEraWithoutTheMessage();
        deedsForWhatIsGone();
        sentInBetween();
        lengthOfTheView();
        positionsInACopy();
        positionsInAView();
        removalsInAView();
        flagsInAView();
        newOnesInAView();
        differentInNothingAndInAll();
        differentInOne();
        alike();
        alikeButForContent();
        Check.end();
    }
}
