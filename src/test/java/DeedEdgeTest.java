/**
 * The boundaries of promises 21 to 30: a test for each sentence that names one, with that sentence
 * above it. Arguments that are too small or too large are in RefusalTest, for all methods.
 */
final class DeedEdgeTest {
    private static final int LEAST = Integer.MIN_VALUE;
    private static final int MOST = Integer.MAX_VALUE;
    private static final Class<?> INDEX = IndexOutOfBoundsException.class;
    private static final Class<?> ARGUMENT = IllegalArgumentException.class;
    private static final Class<?> STATE = IllegalStateException.class;

    /** Machines 0 and 1 have copied the messages 1 and so on of box 0, with flag 1. */
    private static MailSync synced(int count) {
        MailSync x = new MailSync();
        for (int k = 1; k <= count; k++) {
            x.add(0, 100 + k, 2);
        }
        x.sync(0, 0);
        x.sync(1, 0);
        return x;
    }

    private static void planNewOnes(MailSync x, int machine, int box, int count) {
        for (int k = 1; k <= count; k++) {
            x.planNew(machine, box, k, 0);
        }
    }

    // "a list of deeds that are not done yet, at most 8"; "a deed has to be added and there are 8"; "if
    // there are 8 deeds"
    private static void eightDeeds() {
        MailSync x = synced(9);
        for (int name = 1; name <= 6; name++) {
            Check.same("plan", x.plan(0, 0, name, 1, 4), name);
        }
        Check.same("the seventh", x.planNew(0, 1, 5, 5), 7);
        Check.same("the eighth", x.planRemoval(0, 0, 8), 8);
        Check.refuses("a ninth with flags", x, STATE, () -> x.plan(0, 0, 9, 1, 4));
        Check.refuses("a ninth, new", x, STATE, () -> x.planNew(0, 0, 5, 5));
        Check.refuses("a ninth, a removal", x, STATE, () -> x.planRemoval(0, 0, 9));
        Check.same("a change of the first", x.plan(0, 0, 1, 2, 4), 1);
        Look.deed("a change of the first", x, 0, 0, 1, 0, 0, 1, 0, 4, -1);
        Check.same("another machine has 8 of its own", x.plan(1, 0, 9, 1, 4), 9);
        Check.same("one is taken back", x.takeBack(0, 7), 7);
        Check.same("an eighth again", x.plan(0, 0, 9, 1, 4), 10);
        Check.refuses("a ninth again", x, STATE, () -> x.planNew(0, 0, 5, 5));
        Look.deeds("eight", x, 0, 1, 2, 3, 4, 5, 6, 8, 10);
        Check.same("all are played", x.playBack(0), 8);
        Check.same("room again", x.planNew(0, 0, 5, 5), 11);
        Look.deeds("room again", x, 0, 11);
    }

    // "A deed has a number (1 for the first one of all machines, then 1 more each time)"
    private static void numbers() {
        MailSync x = synced(1);
        Check.same("the first", x.planNew(3, 0, 1, 1), 1);
        Check.same("of another machine", x.plan(0, 0, 1, 1, 4), 2);
        Check.refuses("refused", x, STATE, () -> x.plan(0, 0, 2, 1, 4));
        Check.same("a change of deed 2", x.plan(0, 0, 1, 1, 8), 2);
        Check.same("neither took a number", x.planRemoval(0, 0, 1), 3);
        x.takeBack(0, 3);
        Check.same("a number does not come again", x.planRemoval(0, 0, 1), 4);
        x.undo();
        Check.same("but if it is undone", x.planRemoval(0, 0, 1), 4);
        x.playBack(0);
        x.playBack(3);
        Check.same("nor after playing", x.planNew(1, 2, 1, 1), 5);
    }

    // "0 the given flags are added, all others are taken off; 1 the given ones are added; 2 the given ones
    // are taken off": with no flags and with all
    private static void noFlagsAndAll() {
        int[][] due = {{0, 0, 0, 63}, {0, 63, 63, 0}, {1, 0, 0, 0}, {1, 63, 63, 0}, {2, 0, 0, 0}, {2, 63, 0, 63}};
        for (int[] row : due) {
            MailSync x = synced(1);
            String when = "how " + row[0] + ", flags " + row[1];
            Check.same(when, x.plan(0, 0, 1, row[0], row[1]), 1);
            Look.deed(when, x, 0, 0, 1, 0, 0, 1, row[2], row[3], -1);
        }
    }

    // "this one is changed instead: flags that are added now are added then and not taken off, and the other
    // way round; it keeps its number and its place"
    private static void changesOfADeed() {
        MailSync x = synced(2);
        x.plan(0, 0, 1, 1, 6);
        x.plan(0, 0, 2, 1, 1);
        int[][] due = {{2, 12, 2, 12}, {1, 9, 11, 4}, {1, 0, 11, 4}, {2, 0, 11, 4}, {0, 32, 32, 31}, {2, 63, 0, 63},
            {1, 63, 63, 0}, {0, 0, 0, 63}, {0, 63, 63, 0}};
        for (int[] row : due) {
            String when = "then how " + row[0] + ", flags " + row[1];
            Check.same(when, x.plan(0, 0, 1, row[0], row[1]), 1);
            Look.deed(when, x, 0, 0, 1, 0, 0, 1, row[2], row[3], -1);
        }
        Look.deeds("their places", x, 0, 1, 2);
        Look.deed("the other one", x, 0, 1, 2, 0, 0, 2, 1, 0, -1);
    }

    // "IllegalStateException if the copy has no such message"
    private static void messagesThatACopyLacks() {
        MailSync x = synced(2);
        x.add(0, 103, 2);
        x.planNew(0, 0, 5, 5);
        for (int name : new int[] {3, 0, -1, -2, LEAST, MOST}) {
            Check.refuses("plan for " + name, x, STATE, () -> x.plan(0, 0, name, 1, 4));
            Check.refuses("removal of " + name, x, STATE, () -> x.planRemoval(0, 0, name));
        }
        Check.same("the new one is in the view as -1", x.view(0, 0, 2, 0), -1);
        Check.refuses("a copy of another box", x, STATE, () -> x.plan(0, 1, 1, 1, 4));
        Check.refuses("a copy of another machine", x, STATE, () -> x.plan(2, 0, 1, 1, 4));
        Check.refuses("removal in an empty copy", x, STATE, () -> x.planRemoval(2, 0, 1));
    }

    // The copy counts, not the box: one that the box has lost can be planned for, and in another era, too.
    private static void messagesThatOnlyACopyHas() {
        MailSync x = synced(2);
        x.change(0, 2, 0, 1, -1);
        x.remove(0, 2);
        Check.same("gone on the server", x.plan(0, 0, 2, 1, 4), 1);
        Check.same("gone on the server", x.planRemoval(0, 0, 2), 2);
        x.renew(0);
        Check.same("another era", x.plan(0, 0, 1, 1, 4), 3);
        Check.same("nothing of it can be done", x.playBack(0), 0);
        Look.noted("nothing of it can be done", x, 1, 3, 2, 3, 3, 3);
        Check.same("the copy of another era stays", x.copyOf(0, 0, 2), 2);
    }

    // "there is a removal of it among the deeds"; "(A deed with flags for it stays.)"
    private static void planForARemoval() {
        MailSync x = synced(1);
        x.add(1, 7, 7);
        x.sync(0, 1);
        x.plan(0, 0, 1, 1, 4);
        Check.same("it need not have flag 0", x.planRemoval(0, 0, 1), 2);
        Look.deed("the deed with flags stays", x, 0, 0, 1, 0, 0, 1, 4, 0, -1);
        Check.refuses("no change of it then", x, STATE, () -> x.plan(0, 0, 1, 1, 8));
        Check.refuses("nor another removal", x, STATE, () -> x.planRemoval(0, 0, 1));
        Check.same("the same name in another box", x.plan(0, 1, 1, 1, 8), 3);
        Check.same("and its removal", x.planRemoval(0, 1, 1), 4);
        Check.same("the same name on another machine", x.planRemoval(1, 0, 1), 5);
        Check.same("without the removal", x.takeBack(0, 2), 3);
        Check.same("it can be changed again", x.plan(0, 0, 1, 1, 8), 1);
        Look.deed("it can be changed again", x, 0, 0, 1, 0, 0, 1, 12, 0, -1);
        Check.same("and removed again", x.planRemoval(0, 0, 1), 6);
    }

    // "Throws IllegalArgumentException if content is not 0 to 999, or flags is not 0 to 63"
    private static void leastAndMostOfANewOne() {
        MailSync x = new MailSync();
        x.planNew(0, 2, 0, 63);
        x.planNew(0, 0, 999, 0);
        Look.deed("least content, all flags", x, 0, 0, 1, 1, 2, -1, 63, 0, 0);
        Look.deed("greatest content, no flags", x, 0, 1, 2, 1, 0, -1, 0, 0, 999);
        Check.refuses("content 1000", x, ARGUMENT, () -> x.planNew(0, 0, 1000, 0));
        Check.refuses("content -1", x, ARGUMENT, () -> x.planNew(0, 0, -1, 0));
        Check.refuses("flags 64", x, ARGUMENT, () -> x.planNew(0, 0, 0, 64));
        Check.refuses("flags -1", x, ARGUMENT, () -> x.planNew(0, 0, 0, -1));
        Check.same("both are added", x.playBack(0), 2);
        Look.message("least content, all flags", x, 2, 0, 1, 0, 63, 1);
        Look.message("greatest content, no flags", x, 0, 0, 1, 999, 0, 1);
    }

    // "Returns how many deeds the machine has then."; "IllegalStateException if it has no deed with this
    // number"; "no outcome is noted"
    private static void takesBack() {
        MailSync x = new MailSync();
        planNewOnes(x, 0, 0, 5);
        x.planNew(1, 0, 6, 6);
        Check.same("one in between", x.takeBack(0, 3), 4);
        Look.deeds("one in between", x, 0, 1, 2, 4, 5);
        Check.same("the first", x.takeBack(0, 1), 3);
        Look.deeds("the first", x, 0, 2, 4, 5);
        Check.same("the last", x.takeBack(0, 5), 2);
        Look.deeds("the last", x, 0, 2, 4);
        for (int number : new int[] {3, 6, 7, 0, -1, -2, LEAST, MOST}) {
            Check.refuses("deed " + number, x, STATE, () -> x.takeBack(0, number));
        }
        x.takeBack(0, 2);
        Check.same("the only one", x.takeBack(0, 4), 0);
        Look.deeds("the only one", x, 0);
        Check.refuses("none is left", x, STATE, () -> x.takeBack(0, 4));
        x.playBack(1);
        Check.refuses("one that is done", x, STATE, () -> x.takeBack(1, 6));
        Look.noted("only what was played", x, 6, 0);
    }

    // "its position in the order in which the deeds came, from 0"; "NONE if there is no such position."
    private static void positionsOfDeeds() {
        MailSync x = new MailSync();
        planNewOnes(x, 0, 0, 8);
        Look.deed("the first", x, 0, 0, 1, 1, 0, -1, 0, 0, 1);
        Look.deed("the eighth", x, 0, 7, 8, 1, 0, -1, 0, 0, 8);
        for (int k : new int[] {8, -1, LEAST, MOST, 1 << 30}) {
            Look.deed("position " + k, x, 0, k, -1, -1, -1, -1, -1, -1, -1);
            Look.deed("of no deeds, position " + k, x, 1, k, -1, -1, -1, -1, -1, -1, -1);
        }
        Check.refuses("no position, and what 7", x, ARGUMENT, () -> x.deed(0, 8, 7));
        Check.refuses("no position, and machine 4", x, INDEX, () -> x.deed(4, 8, 0));
    }

    // "3 the name of its message (NONE for a new one), 4 the flags that are added, or those of a new message
    // (0 for a removal), 5 the flags that are taken off (0 for others), 6 the content of a new message (NONE
    // for others)": in places where other deeds were before
    private static void whatADeedTells() {
        MailSync x = synced(1);
        x.plan(0, 0, 1, 0, 21);
        x.takeBack(0, 1);
        x.planRemoval(0, 0, 1);
        Look.deed("a removal where flags were", x, 0, 0, 2, 2, 0, 1, 0, 0, -1);
        x.takeBack(0, 2);
        x.planNew(0, 2, 77, 21);
        Look.deed("a new one", x, 0, 0, 3, 1, 2, -1, 21, 0, 77);
        x.takeBack(0, 3);
        x.plan(0, 0, 1, 2, 21);
        Look.deed("flags where a new one was", x, 0, 0, 4, 0, 0, 1, 0, 21, -1);
        x.takeBack(0, 4);
        x.planNew(0, 2, 77, 9);
        Look.deed("a new one where flags were", x, 0, 0, 5, 1, 2, -1, 9, 0, 77);
    }

    // "each of them is done, in their order; then there are none": of no deeds
    private static void playsNothing() {
        MailSync x = synced(1);
        x.planNew(1, 0, 5, 5);
        Check.same("no deeds", x.playBack(0), 0);
        Look.noted("no deeds", x);
        Look.box("no deeds", x, 0, 1, 2, 1, 1, 0, 0);
        Look.deeds("those of another machine stay", x, 1, 1);
    }

    // "A message was touched if its mark on the server is greater than that in the copy."
    private static void touchedOrNot() {
        MailSync x = synced(3);
        x.setPolicy(0, 1);
        x.plan(0, 0, 1, 1, 4);
        x.plan(0, 0, 2, 1, 4);
        x.plan(0, 0, 3, 1, 4);
        x.change(0, 1, 0, 2, -1);
        x.change(0, 2, 0, 3, -1);
        x.change(0, 2, 0, 2, -1);
        Check.same("two of three", x.playBack(0), 2);
        Look.noted("the same flags do not touch, there and back does", x, 1, 0, 2, 4, 3, 0);
        Look.message("untouched", x, 0, 0, 1, 101, 6, 6);
        Look.message("refused", x, 0, 1, 2, 102, 2, 5);
        Look.message("untouched", x, 0, 2, 3, 103, 6, 7);
        Look.copied("untouched", x, 0, 0, 0, 1, 101, 6, 6);
        Look.copied("the copy keeps its mark", x, 0, 0, 1, 2, 102, 2, 2);
    }

    // "the flags of the message on the server are changed": to the same, if another did that before; "the
    // message of the copy gets its flags and its mark"
    private static void mergesToTheSameFlags() {
        MailSync x = synced(1);
        x.plan(0, 0, 1, 1, 4);
        x.change(0, 1, 0, 14, -1);
        Check.same("merged", x.playBack(0), 1);
        Look.noted("merged", x, 1, 1);
        Look.message("nothing happens on the server", x, 0, 0, 1, 101, 14, 2);
        Look.box("nothing happens on the server", x, 0, 1, 2, 2, 1, 0, 0);
        Look.copied("the copy gets flags and mark", x, 0, 0, 0, 1, 101, 14, 2);
        Look.copyOf("the mark of the copy stays", x, 0, 0, 1, 1, 1, 1);
        Check.same("so it is sent once more", x.syncCost(0, 0), 1);
    }

    // "those that are taken off are removed, those that are added are added": all six of both
    private static void playsAllFlags() {
        MailSync x = synced(2);
        x.plan(0, 0, 1, 0, 63);
        x.plan(0, 0, 2, 2, 63);
        Check.same("both", x.playBack(0), 2);
        Look.message("all flags", x, 0, 0, 1, 101, 63, 3);
        Look.message("no flags", x, 0, 1, 2, 102, 0, 4);
        Look.copied("all flags", x, 0, 0, 0, 1, 101, 63, 3);
        Look.copied("no flags", x, 0, 0, 1, 2, 102, 0, 4);
    }

    // "Otherwise, if the box has no message with this name: outcome 2, and the copy has none then either.
    // Otherwise, if it was touched and the policy is to yield: outcome 4."
    private static void goneOnTheServer() {
        for (int policy = 0; policy <= 1; policy++) {
            MailSync x = synced(3);
            x.setPolicy(0, policy);
            x.planRemoval(0, 0, 3);
            x.plan(0, 0, 1, 1, 4);
            x.change(0, 3, 0, 1, -1);
            x.change(0, 1, 0, 1, -1);
            x.clean(0);
            Check.same("gone", x.playBack(0), 0);
            Look.noted("gone", x, 1, 2, 2, 2);
            Look.copyOf("the copy has them no more", x, 0, 0, 1, 3, 1, 1);
            Look.copied("the other one stays", x, 0, 0, 0, 2, 102, 2, 2);
        }
    }

    // "if the era of the copy is not that of the box: outcome 3": before all others, with either policy
    private static void anotherEra() {
        for (int policy = 0; policy <= 1; policy++) {
            MailSync x = synced(2);
            x.setPolicy(0, policy);
            x.plan(0, 0, 1, 1, 4);
            x.planRemoval(0, 0, 2);
            x.change(0, 2, 0, 1, -1);
            x.remove(0, 2);
            x.renew(0);
            Check.same("another era", x.playBack(0), 0);
            Look.noted("another era", x, 1, 3, 2, 3);
            Look.copyOf("the copy stays", x, 0, 0, 1, 2, 2, 2);
            Look.box("the box stays", x, 0, 2, 2, 5, 1, 5, 0);
        }
    }

    // "For a removal: the message is removed, on the server and from the copy.": the seventh one drops the
    // oldest entry, as ever
    private static void playsSevenRemovals() {
        MailSync x = synced(8);
        for (int name = 7; name >= 1; name--) {
            x.planRemoval(0, 0, name);
        }
        Check.same("seven", x.playBack(0), 7);
        Look.box("seven", x, 0, 1, 9, 15, 1, 9, 6);
        Look.vanished("in the order of the deeds", x, 0, 6, 10, 5, 11, 4, 12, 3, 13, 2, 14, 1, 15);
        Look.copyOf("the copy keeps up", x, 0, 0, 1, 15, 1, 1);
        Look.copied("the one that is left", x, 0, 0, 0, 8, 108, 2, 8);
        Check.same("nothing is due", x.syncCost(0, 0), 0);
        Check.same("machine 1 has to compare", x.sync(1, 0), 1);
        Check.same("machine 1 has to compare", x.told(4), 1);
    }

    // "New: if the box has 20 messages: outcome 5."
    private static void newToTwenty() {
        MailSync x = synced(19);
        planNewOnes(x, 0, 0, 2);
        Check.same("room for one", x.playBack(0), 1);
        Look.noted("room for one", x, 1, 0, 2, 5);
        Check.same("the name of the first", x.nameOf(1), 20);
        Check.same("the second has none", x.nameOf(2), -1);
        Look.box("full", x, 0, 1, 21, 20, 20, 0, 0);
        Look.copyOf("the copy keeps up", x, 0, 0, 1, 20, 20, 20);
        x.planRemoval(0, 0, 1);
        planNewOnes(x, 0, 0, 1);
        Check.same("a removal makes room", x.playBack(0), 2);
        Check.same("a removal makes room", x.nameOf(4), 21);
        planNewOnes(x, 0, 0, 1);
        x.planRemoval(0, 0, 2);
        Check.same("if it comes before", x.playBack(0), 1);
        Check.same("if it comes before", x.outcome(5), 5);
        Look.box("one was removed", x, 0, 1, 22, 23, 19, 0, 2);
    }

    // "it is added to the box, and, if the era of the copy is that of the box, to the copy, too"; "If the era
    // of the copy is that of the box, and the mark of the copy was that of the box before the deed": a copy
    // that was never synced has the mark of the box, 0, but not its era
    private static void newWithoutACopy() {
        MailSync x = new MailSync();
        planNewOnes(x, 0, 0, 1);
        Check.same("added", x.playBack(0), 1);
        Look.box("added", x, 0, 1, 2, 1, 1, 0, 0);
        Look.copyOf("not to the copy", x, 0, 0, 0, 0, 0, 0);
        Check.same("its name", x.nameOf(1), 1);
        MailSync y = new MailSync();
        y.sync(0, 0);
        planNewOnes(y, 0, 0, 1);
        Check.same("added", y.playBack(0), 1);
        Look.copyOf("to the copy, too", y, 0, 0, 1, 1, 1, 1);
    }

    // ".. it becomes that of the box.": but not if it was one short; each box by itself
    private static void marksOfCopies() {
        MailSync x = synced(2);
        x.add(1, 7, 2);
        x.sync(0, 1);
        x.change(0, 2, 1, 8, -1);
        x.plan(0, 0, 1, 1, 4);
        x.plan(0, 1, 1, 1, 4);
        planNewOnes(x, 0, 1, 1);
        planNewOnes(x, 0, 0, 1);
        Check.same("all", x.playBack(0), 4);
        Look.copyOf("box 0 was one mark ahead", x, 0, 0, 1, 2, 3, 3);
        Look.box("box 0", x, 0, 1, 4, 5, 3, 0, 0);
        Look.copyOf("box 1 was level", x, 0, 1, 1, 3, 2, 2);
        Look.box("box 1", x, 1, 1, 3, 3, 2, 0, 0);
        Check.same("three are sent", x.sync(0, 0), 3);
        Check.same("nothing is sent", x.sync(0, 1), 0);
    }

    /** Deeds of machine 0 that end in all ways. */
    private static MailSync withAllOutcomes(int policy) {
        MailSync x = new MailSync();
        for (int k = 1; k <= 20; k++) {
            x.add(0, k, 3);
        }
        for (int k = 1; k <= 4; k++) {
            x.add(1, k, 3);
        }
        x.add(2, 1, 3);
        for (int b = 0; b < 3; b++) {
            x.sync(0, b);
        }
        x.setPolicy(0, policy);
        x.plan(0, 1, 1, 1, 4);
        x.plan(0, 1, 2, 1, 4);
        x.plan(0, 1, 3, 1, 4);
        x.plan(0, 2, 1, 1, 4);
        x.planNew(0, 0, 5, 5);
        x.planNew(0, 2, 6, 6);
        x.planRemoval(0, 1, 2);
        x.planRemoval(0, 1, 4);
        x.change(1, 2, 1, 8, -1);
        x.change(1, 4, 1, 8, -1);
        x.remove(1, 3);
        x.renew(2);
        return x;
    }

    // "Returns how many of them had the outcome 0 or 1."; "5 deeds with the outcome 1, 6 deeds with an outcome
    // above 1"
    private static void allOutcomes() {
        MailSync merge = withAllOutcomes(0);
        Check.same("merge", merge.playBack(0), 5);
        // Deed 7 finds its message as deed 2 left it, so nobody else has touched it.
        Look.noted("merge", merge, 1, 0, 2, 1, 3, 2, 4, 3, 5, 5, 6, 0, 7, 0, 8, 1);
        Check.same("told 5", merge.told(5), 2);
        Check.same("told 6", merge.told(6), 3);
        MailSync yield = withAllOutcomes(1);
        Check.same("yield", yield.playBack(0), 2);
        Look.noted("yield", yield, 1, 0, 2, 4, 3, 2, 4, 3, 5, 5, 6, 0, 7, 4, 8, 4);
        Check.same("told 5", yield.told(5), 0);
        Check.same("told 6", yield.told(6), 6);
    }

    // "Returns the name; NONE if no outcome is noted for it, or it was not a new message with the outcome 0."
    private static void namesOfDeeds() {
        MailSync x = withAllOutcomes(0);
        for (int number = 1; number <= 8; number++) {
            Check.same("not played yet: " + number, x.nameOf(number), -1);
        }
        x.playBack(0);
        for (int number = 1; number <= 8; number++) {
            Check.same("played: " + number, x.nameOf(number), number == 6 ? 2 : -1);
        }
        for (int number : new int[] {9, 0, -1, LEAST, MOST}) {
            Check.same("no such deed: " + number, x.nameOf(number), -1);
        }
    }

    // "At most 10 outcomes are noted for all machines together; when one more is noted, the one that was noted
    // first is dropped."
    private static void tenOutcomes() {
        MailSync x = new MailSync();
        planNewOnes(x, 1, 0, 8);
        x.playBack(1);
        planNewOnes(x, 0, 1, 2);
        x.playBack(0);
        Look.noted("ten", x, 1, 0, 2, 0, 3, 0, 4, 0, 5, 0, 6, 0, 7, 0, 8, 0, 9, 0, 10, 0);
        Check.same("the first one's name", x.nameOf(1), 1);
        planNewOnes(x, 3, 2, 1);
        x.playBack(3);
        Look.noted("the eleventh", x, 2, 0, 3, 0, 4, 0, 5, 0, 6, 0, 7, 0, 8, 0, 9, 0, 10, 0, 11, 0);
        Check.same("the first one is dropped", x.outcome(1), -1);
        Check.same("with its name", x.nameOf(1), -1);
        Check.same("the second one is not", x.outcome(2), 0);
        Check.same("nor its name", x.nameOf(2), 2);
    }

    // The same for outcomes that syncing notes.
    private static void tenOutcomesBySyncing() {
        MailSync x = synced(1);
        x.sync(0, 1);
        planNewOnes(x, 1, 1, 8);
        x.playBack(1);
        x.sync(0, 1);
        for (int name = 1; name <= 8; name++) {
            x.planRemoval(0, 1, name);
        }
        x.renew(1);
        x.sync(0, 1);
        Look.noted("16 in all", x, 7, 0, 8, 0, 9, 3, 10, 3, 11, 3, 12, 3, 13, 3, 14, 3, 15, 3, 16, 3);
        Check.same("all are counted", x.told(6), 8);
    }

    // "Returns the outcome; NONE if none is noted for it."
    private static void noOutcome() {
        MailSync x = new MailSync();
        for (int number : new int[] {0, 1, -1, LEAST, MOST}) {
            Check.same("nothing noted: " + number, x.outcome(number), -1);
        }
        planNewOnes(x, 0, 0, 3);
        x.takeBack(0, 2);
        x.playBack(0);
        planNewOnes(x, 0, 0, 1);
        Check.same("the first", x.outcome(1), 0);
        Check.same("taken back", x.outcome(2), -1);
        Check.same("the third", x.outcome(3), 0);
        Check.same("not done yet", x.outcome(4), -1);
        for (int number : new int[] {5, 0, -1, LEAST, MOST}) {
            Check.same("no such deed: " + number, x.outcome(number), -1);
        }
    }

    // "the position, from the one that was noted first, from 0"; "NONE if there is no such position."
    private static void positionsOfOutcomes() {
        MailSync x = new MailSync();
        planNewOnes(x, 0, 0, 1);
        for (int k : new int[] {0, 1, 9, 10, -1, LEAST, MOST}) {
            Check.same("nothing noted: " + k, x.noted(k), -1);
        }
        x.playBack(0);
        Check.same("the only one", x.noted(0), 1);
        for (int k : new int[] {1, 9, 10, -1, LEAST, MOST, 1 << 30}) {
            Check.same("no such position: " + k, x.noted(k), -1);
        }
    }

    // "Lets all machines play back their deeds, in ascending order, and then sync all boxes": with nothing to
    // do, all twelve copies are synced all the same
    private static void settlesNothing() {
        MailSync x = new MailSync();
        Check.same("nothing is sent", x.settle(), 0);
        Look.told("to another era", x, 0, 0, 12, 0, 0, 0, 0);
        Check.same("nothing is sent", x.settle(), 0);
        Look.told("by marks", x, 0, 0, 12, 12, 0, 0, 0);
        Check.same("two records", x.undo(), 1);
        Look.told("one of them is undone", x, 0, 0, 12, 0, 0, 0, 0);
        Check.same("no record", x.undo(), 0);
        Look.told("both are undone", x, 0, 0, 0, 0, 0, 0, 0);
    }

    // .. and with 8 deeds of each machine: 20 have room, and ten outcomes are kept
    private static void settlesAll() {
        MailSync x = new MailSync();
        for (int m = 0; m < 4; m++) {
            planNewOnes(x, m, 0, 8);
        }
        Check.same("20 messages for each machine", x.settle(), 80);
        Look.told("20 messages for each machine", x, 80, 0, 12, 0, 0, 0, 12);
        Look.noted("the last ten", x, 23, 5, 24, 5, 25, 5, 26, 5, 27, 5, 28, 5, 29, 5, 30, 5, 31, 5, 32, 5);
        Look.box("full", x, 0, 1, 21, 20, 20, 0, 0);
        Look.message("machine 0 came first", x, 0, 7, 8, 8, 0, 8);
        Look.message("machine 2 had the last room", x, 0, 19, 20, 4, 0, 20);
        for (int m = 0; m < 4; m++) {
            Look.deeds("no deeds then", x, m);
            Look.copyOf("a full copy", x, m, 0, 1, 20, 20, 20);
        }
        Check.same("one record for all", x.undo(), 3);
        for (int m = 0; m < 4; m++) {
            Check.same("the deeds are back", x.deed(m, 7, 0), 8 * m + 8);
        }
    }

    public static void main(String[] args) {
        eightDeeds();
        numbers();
        noFlagsAndAll();
        changesOfADeed();
        messagesThatACopyLacks();
        messagesThatOnlyACopyHas();
        planForARemoval();
        leastAndMostOfANewOne();
        takesBack();
        positionsOfDeeds();
        whatADeedTells();
        playsNothing();
        touchedOrNot();
        mergesToTheSameFlags();
        playsAllFlags();
        goneOnTheServer();
        anotherEra();
        playsSevenRemovals();
        newToTwenty();
        newWithoutACopy();
        marksOfCopies();
        allOutcomes();
        namesOfDeeds();
        tenOutcomes();
        tenOutcomesBySyncing();
        noOutcome();
        positionsOfOutcomes();
        settlesNothing();
        settlesAll();
        Check.end();
    }
}
