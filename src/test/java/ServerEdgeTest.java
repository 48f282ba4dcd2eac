/**
 * The boundaries of promises 1 to 12: a test for each sentence that names one, with that sentence
 * above it. Arguments that are too small or too large are in RefusalTest, for all methods.
 */
final class ServerEdgeTest {
    private static final int LEAST = Integer.MIN_VALUE;
    private static final int MOST = Integer.MAX_VALUE;
    private static final Class<?> INDEX = IndexOutOfBoundsException.class;
    private static final Class<?> ARGUMENT = IllegalArgumentException.class;
    private static final Class<?> STATE = IllegalStateException.class;

    /** A box 0 with the messages 1 and so on, all with the same flags. */
    private static MailSync with(int count, int flags) {
        MailSync x = new MailSync();
        for (int k = 1; k <= count; k++) {
            x.add(0, 100 + k, flags);
        }
        return x;
    }

    // "There are three boxes, 0 to 2."
    private static void threeBoxes() {
        MailSync x = new MailSync();
        x.add(2, 5, 1);
        x.add(2, 6, 1);
        x.add(0, 7, 1);
        Look.box("box 0", x, 0, 1, 2, 1, 1, 0, 0);
        Look.box("box 1", x, 1, 1, 1, 0, 0, 0, 0);
        Look.box("box 2", x, 2, 1, 3, 2, 2, 0, 0);
        Check.refuses("box 3", x, INDEX, () -> x.add(3, 5, 1));
        Check.refuses("box -1", x, INDEX, () -> x.add(-1, 5, 1));
    }

    // "A box has an era (1 at first), a next name (1 at first), a mark (0 at first) .. the horizon of the
    // box (0 at first)." "Creates a server with empty boxes, and machines with empty copies and no deeds."
    private static void atFirst() {
        MailSync x = new MailSync();
        for (int b = 0; b < 3; b++) {
            Look.box("a new box", x, b, 1, 1, 0, 0, 0, 0);
            Look.message("a new box", x, b, 0, -1, -1, -1, -1);
            Look.vanished("a new box", x, b);
            for (int m = 0; m < 4; m++) {
                Look.copyOf("a new copy", x, m, b, 0, 0, 0, 0);
                Look.copied("a new copy", x, m, b, 0, -1, -1, -1, -1);
                Look.viewNames("a new copy", x, m, b);
            }
        }
        for (int m = 0; m < 4; m++) {
            Look.deeds("a new machine", x, m);
        }
        Look.noted("at first", x);
        Look.told("at first", x, 0, 0, 0, 0, 0, 0, 0);
    }

    // ".. and at most 20 messages." "IllegalStateException if the box has 20 messages"
    private static void twentyMessages() {
        MailSync x = with(19, 1);
        Check.same("the twentieth", x.add(0, 120, 0), 20);
        Check.refuses("the twenty-first", x, STATE, () -> x.add(0, 121, 0));
        Look.box("full", x, 0, 1, 21, 20, 20, 0, 0);
        Look.message("the last one", x, 0, 19, 20, 120, 0, 20);
        x.remove(0, 7);
        Check.same("room again", x.add(0, 121, 0), 21);
        Check.refuses("and full again", x, STATE, () -> x.add(0, 122, 0));
        Look.message("the last one", x, 0, 19, 21, 121, 0, 22);
    }

    // "a content (0 to 999), flags (0 to 63 ..)"
    private static void leastAndMostOfAMessage() {
        MailSync x = new MailSync();
        x.add(0, 0, 63);
        x.add(0, 999, 0);
        Look.message("least content, all flags", x, 0, 0, 1, 0, 63, 1);
        Look.message("greatest content, no flags", x, 0, 1, 2, 999, 0, 2);
        Check.refuses("content 1000", x, ARGUMENT, () -> x.add(0, 1000, 0));
        Check.refuses("content -1", x, ARGUMENT, () -> x.add(0, -1, 0));
        Check.refuses("flags 64", x, ARGUMENT, () -> x.add(0, 0, 64));
        Check.refuses("flags -1", x, ARGUMENT, () -> x.add(0, 0, -1));
    }

    // "the message gets the next name of the box, which then increases by 1": no name comes twice in an era
    private static void nameOfARemovedOne() {
        MailSync x = with(2, 1);
        x.remove(0, 2);
        x.remove(0, 1);
        Look.box("all removed", x, 0, 1, 3, 4, 0, 0, 2);
        Check.same("the next one", x.add(0, 1, 1), 3);
        Look.message("alone", x, 0, 0, 3, 1, 1, 5);
    }

    // "(If they are the same, nothing happens.)"
    private static void sameFlags() {
        MailSync x = with(1, 6);
        int[][] calls = {{0, 6}, {1, 6}, {1, 2}, {1, 0}, {2, 57}, {2, 1}, {2, 0}};
        for (int[] call : calls) {
            Check.same("the same flags by " + call[0], x.change(0, 1, call[0], call[1], -1), 6);
            Look.message("the same flags by " + call[0], x, 0, 0, 1, 101, 6, 1);
            Look.box("the same flags by " + call[0], x, 0, 1, 2, 1, 1, 0, 0);
        }
    }

    // "0 they become the given ones, 1 the given ones are added, 2 the given ones are taken off"
    private static void allFlagsAndNone() {
        MailSync x = with(1, 20);
        Check.same("all are added", x.change(0, 1, 1, 63, -1), 63);
        Check.same("all are taken off", x.change(0, 1, 2, 63, -1), 0);
        Check.same("they become all", x.change(0, 1, 0, 63, -1), 63);
        Check.same("they become none", x.change(0, 1, 0, 0, -1), 0);
        Check.same("the greatest flag is added", x.change(0, 1, 1, 32, -1), 32);
        Check.same("and flag 0", x.change(0, 1, 1, 1, -1), 33);
        Check.same("the greatest flag is taken off", x.change(0, 1, 2, 32, -1), 1);
        Look.message("each was a change", x, 0, 0, 1, 101, 1, 8);
    }

    // "the condition: the mark of the message is at most this one; NONE for no condition"
    private static void condition() {
        MailSync x = with(3, 2);
        x.change(0, 2, 1, 4, -1);
        Look.message("its mark is 4", x, 0, 1, 2, 102, 6, 4);
        Check.refuses("since 3", x, STATE, () -> x.change(0, 2, 0, 1, 3));
        Check.refuses("since 0", x, STATE, () -> x.change(0, 2, 0, 1, 0));
        Check.refuses("since 3, for the same flags", x, STATE, () -> x.change(0, 2, 0, 6, 3));
        Check.same("since 4", x.change(0, 2, 0, 1, 4), 1);
        Check.same("since 6, its mark being 5", x.change(0, 2, 0, 3, 6), 3);
        Check.same("since the greatest", x.change(0, 2, 0, 7, MOST), 7);
        Check.same("NONE", x.change(0, 2, 0, 8, MailSync.NONE), 8);
        Check.same("the mark of the message counts, not that of the box", x.change(0, 1, 0, 9, 1), 9);
        Check.refuses("since -2", x, ARGUMENT, () -> x.change(0, 1, 0, 9, -2));
        Check.refuses("the least since", x, ARGUMENT, () -> x.change(0, 1, 0, 9, LEAST));
    }

    // "IndexOutOfBoundsException if there is no such box, or it has no such message"
    private static void noSuchMessage() {
        MailSync x = with(3, 1);
        x.remove(0, 2);
        for (int name : new int[] {2, 0, -1, 4, LEAST, MOST}) {
            Check.refuses("change of " + name, x, INDEX, () -> x.change(0, name, 0, 0, -1));
            Check.refuses("remove of " + name, x, INDEX, () -> x.remove(0, name));
            Check.refuses("copy of " + name, x, INDEX, () -> x.copy(0, name, 1));
        }
        Check.refuses("change in an empty box", x, INDEX, () -> x.change(1, 1, 0, 0, -1));
        Check.refuses("remove in an empty box", x, INDEX, () -> x.remove(1, 1));
        Check.refuses("copy from an empty box", x, INDEX, () -> x.copy(1, 1, 0));
        x.renew(0);
        Check.refuses("a name of the former era", x, INDEX, () -> x.remove(0, 3));
        Check.same("a name of this era", x.remove(0, 2), 1);
    }

    // "IllegalStateException if it does not have flag 0"; "Returns how many messages the box has then."
    private static void removeNeedsFlag0() {
        MailSync x = with(1, 62);
        Check.refuses("all other flags", x, STATE, () -> x.remove(0, 1));
        x.change(0, 1, 0, 0, -1);
        Check.refuses("no flags", x, STATE, () -> x.remove(0, 1));
        x.change(0, 1, 0, 1, -1);
        Check.same("flag 0 alone", x.remove(0, 1), 0);
        x.add(0, 1, 63);
        Check.same("all flags", x.remove(0, 2), 0);
        Look.vanished("both", x, 0, 1, 4, 2, 6);
    }

    // "This list has at most 6 entries; when one more is appended, the oldest is dropped, and its mark
    // becomes the horizon of the box (0 at first)."
    private static void sixVanished() {
        MailSync x = with(9, 1);
        for (int name = 1; name <= 6; name++) {
            x.remove(0, name);
            Look.box("removed " + name, x, 0, 1, 10, 9 + name, 9 - name, 0, name);
        }
        Look.vanished("six", x, 0, 1, 10, 2, 11, 3, 12, 4, 13, 5, 14, 6, 15);
        x.remove(0, 9);
        Look.vanished("the seventh", x, 0, 2, 11, 3, 12, 4, 13, 5, 14, 6, 15, 9, 16);
        Look.box("the seventh", x, 0, 1, 10, 16, 2, 10, 6);
        x.remove(0, 7);
        Look.vanished("the eighth", x, 0, 3, 12, 4, 13, 5, 14, 6, 15, 9, 16, 7, 17);
        Look.box("the eighth", x, 0, 1, 10, 17, 1, 11, 6);
        Look.box("another box", x, 1, 1, 1, 0, 0, 0, 0);
    }

    // The horizon is the mark of an entry, not the one before the list's oldest.
    private static void horizonIsTheMarkOfTheEntry() {
        MailSync x = with(8, 1);
        x.remove(0, 1);
        x.change(0, 8, 1, 2, -1);
        x.change(0, 8, 1, 4, -1);
        for (int name = 2; name <= 7; name++) {
            x.remove(0, name);
        }
        Look.box("the horizon", x, 0, 1, 9, 17, 1, 9, 6);
        Check.same("the oldest entry", x.vanished(0, 0, true), 12);
    }

    // "Removes all messages of a box that have flag 0, in ascending order of their names."
    private static void cleanNone() {
        MailSync x = with(2, 62);
        Check.same("an empty box", x.clean(1), 0);
        Look.box("an empty box", x, 1, 1, 1, 0, 0, 0, 0);
        Check.same("none has flag 0", x.clean(0), 0);
        Look.box("none has flag 0", x, 0, 1, 3, 2, 2, 0, 0);
    }

    private static void cleanSixAndSeven() {
        MailSync six = with(6, 1);
        Check.same("clean of 6", six.clean(0), 6);
        Look.box("clean of 6", six, 0, 1, 7, 12, 0, 0, 6);
        Look.vanished("clean of 6", six, 0, 1, 7, 2, 8, 3, 9, 4, 10, 5, 11, 6, 12);
        MailSync seven = with(7, 1);
        Check.same("clean of 7", seven.clean(0), 7);
        Look.box("clean of 7", seven, 0, 1, 8, 14, 0, 8, 6);
        Look.vanished("clean of 7", seven, 0, 2, 9, 3, 10, 4, 11, 5, 12, 6, 13, 7, 14);
    }

    private static void cleanTwenty() {
        MailSync x = with(20, 63);
        Check.same("clean of 20", x.clean(0), 20);
        Look.box("clean of 20", x, 0, 1, 21, 40, 0, 34, 6);
        Look.vanished("clean of 20", x, 0, 15, 35, 16, 36, 17, 37, 18, 38, 19, 39, 20, 40);
        Check.same("the next name", x.add(0, 1, 1), 21);
    }

    // The first, the last and neighbours have flag 0.
    private static void cleanSome() {
        MailSync x = new MailSync();
        for (int flags : new int[] {1, 2, 3, 5, 4, 63}) {
            x.add(0, 10, flags);
        }
        Check.same("clean of 4", x.clean(0), 4);
        Look.vanished("clean of 4", x, 0, 1, 7, 3, 8, 4, 9, 6, 10);
        Look.message("left", x, 0, 0, 2, 10, 2, 2);
        Look.message("left", x, 0, 1, 5, 10, 4, 5);
        Look.message("no more", x, 0, 2, -1, -1, -1, -1);
    }

    // "IllegalStateException if the box to which it is added has 20 messages"; "possibly the same"
    private static void copyToTwenty() {
        MailSync x = with(19, 8);
        x.add(1, 50, 9);
        Check.same("to 19", x.copy(1, 1, 0), 20);
        Look.message("to 19", x, 0, 19, 20, 50, 9, 20);
        Check.refuses("to 20", x, STATE, () -> x.copy(1, 1, 0));
        Check.refuses("to 20, the same", x, STATE, () -> x.copy(0, 20, 0));
        Check.refuses("no such message, to 20", x, INDEX, () -> x.copy(1, 2, 0));
        Check.same("from 20", x.copy(0, 19, 2), 1);
        Look.message("from 20", x, 2, 0, 1, 119, 8, 1);
        MailSync same = with(19, 8);
        Check.same("to 19, the same", same.copy(0, 19, 0), 20);
        Look.message("to 19, the same", same, 0, 19, 20, 119, 8, 20);
        Look.message("the one that was copied stays", same, 0, 18, 19, 119, 8, 19);
    }

    // "To renew a box means: its era and its mark increase by 1; its messages get the names 1, 2, and so
    // on .. the next name is the number of messages plus 1"
    private static void renewEmpty() {
        MailSync x = new MailSync();
        Check.same("renew", x.renew(2), 2);
        Look.box("renewed", x, 2, 2, 1, 1, 0, 1, 0);
        Check.same("again", x.renew(2), 3);
        Look.box("again", x, 2, 3, 1, 2, 0, 2, 0);
        Check.same("the first name", x.add(2, 1, 1), 1);
        Look.message("its mark", x, 2, 0, 1, 1, 1, 3);
    }

    private static void renewFull() {
        MailSync x = with(20, 1);
        x.remove(0, 1);
        x.add(0, 121, 0);
        x.renew(0);
        Look.box("renewed", x, 0, 2, 21, 23, 20, 23, 0);
        for (int k = 0; k < 19; k++) {
            Look.message("renewed", x, 0, k, k + 1, 102 + k, 1, 23);
        }
        Look.message("renewed", x, 0, 19, 20, 121, 0, 23);
        Check.refuses("still full", x, STATE, () -> x.add(0, 1, 1));
    }

    // "the list of what vanished becomes empty, and the mark is the horizon."
    private static void renewWithSixVanished() {
        MailSync x = with(8, 1);
        for (int name = 1; name <= 7; name++) {
            x.remove(0, name);
        }
        x.renew(0);
        Look.box("renewed", x, 0, 2, 2, 16, 1, 16, 0);
        Look.vanished("renewed", x, 0);
        x.remove(0, 1);
        Look.vanished("the first one of this era", x, 0, 1, 17);
        Look.box("the horizon stays", x, 0, 2, 2, 17, 0, 16, 1);
    }

    // After a renewal the horizon moves on with the seventh entry, as ever.
    private static void horizonAfterRenewal() {
        MailSync x = with(7, 1);
        x.renew(0);
        for (int name = 1; name <= 6; name++) {
            x.remove(0, name);
            Check.same("the horizon", x.box(0, 4), 8);
        }
        x.remove(0, 7);
        Look.box("the seventh", x, 0, 2, 8, 15, 0, 9, 6);
    }

    // "its position among the messages in ascending order of their names, from 0"; "NONE if there is no
    // such position."
    private static void positionsOfMessages() {
        MailSync x = with(20, 1);
        Look.message("the first", x, 0, 0, 1, 101, 1, 1);
        Look.message("the last", x, 0, 19, 20, 120, 1, 20);
        for (int k : new int[] {20, -1, LEAST, MOST, 1 << 29, 1 << 30}) {
            Look.message("position " + k, x, 0, k, -1, -1, -1, -1);
        }
        x.remove(0, 20);
        Look.message("where the last one was", x, 0, 19, -1, -1, -1, -1);
        Look.message("in an empty box", x, 1, 0, -1, -1, -1, -1);
        Check.refuses("no position, and what 4", x, ARGUMENT, () -> x.message(0, 20, 4));
        Check.refuses("no position, and box 3", x, INDEX, () -> x.message(3, 20, 0));
    }

    // "its position, from the oldest one, from 0"; "NONE if there is no such position."
    private static void positionsOfVanished() {
        MailSync x = with(2, 1);
        for (int k : new int[] {0, -1, 6, LEAST, MOST}) {
            Check.same("nothing vanished: mark at " + k, x.vanished(0, k, true), -1);
            Check.same("nothing vanished: name at " + k, x.vanished(0, k, false), -1);
        }
        x.remove(0, 2);
        Check.same("its mark", x.vanished(0, 0, true), 3);
        Check.same("its name", x.vanished(0, 0, false), 2);
        for (int k : new int[] {1, -1, 6, LEAST, MOST}) {
            Check.same("one vanished: mark at " + k, x.vanished(0, k, true), -1);
            Check.same("one vanished: name at " + k, x.vanished(0, k, false), -1);
        }
        Check.refuses("no position, and box 3", x, INDEX, () -> x.vanished(3, 9, true));
    }

    // "Finds the message with the greatest name that is at most a given one."; "NONE if there is none."
    private static void atMost() {
        MailSync x = with(5, 1);
        x.remove(0, 1);
        x.remove(0, 3);
        int[][] due = {{LEAST, -1}, {-1, -1}, {0, -1}, {1, -1}, {2, 2}, {3, 2}, {4, 4}, {5, 5}, {6, 5}, {MOST, 5}};
        for (int[] pair : due) {
            Check.same("atMost " + pair[0], x.atMost(0, pair[0]), pair[1]);
        }
        Check.same("in an empty box", x.atMost(1, MOST), -1);
        MailSync full = with(20, 1);
        Check.same("the least of 20", full.atMost(0, 1), 1);
        Check.same("the greatest of 20", full.atMost(0, 20), 20);
        Check.same("below the least of 20", full.atMost(0, 0), -1);
    }

    // "Finds the message with the smallest mark that is greater than a given one."; "(of several the
    // smallest one); NONE if there is none."
    private static void changedAfter() {
        MailSync x = with(4, 1);
        x.change(0, 1, 1, 2, -1);
        x.remove(0, 3);
        int[][] due = {{LEAST, 2}, {-1, 2}, {0, 2}, {1, 2}, {2, 4}, {3, 4}, {4, 1}, {5, -1}, {6, -1}, {MOST, -1}};
        for (int[] pair : due) {
            Check.same("changedAfter " + pair[0], x.changedAfter(0, pair[0]), pair[1]);
        }
        Check.same("in an empty box", x.changedAfter(1, LEAST), -1);
        x.renew(0);
        Check.same("all have the mark 7", x.changedAfter(0, 6), 1);
        Check.same("none has a greater one", x.changedAfter(0, 7), -1);
        x.change(0, 1, 0, 40, -1);
        Check.same("of two with the mark 7", x.changedAfter(0, 6), 2);
        Check.same("the one with the mark 8", x.changedAfter(0, 7), 1);
    }

    public static void main(String[] args) {
        threeBoxes();
        atFirst();
        twentyMessages();
        leastAndMostOfAMessage();
        nameOfARemovedOne();
        sameFlags();
        allFlagsAndNone();
        condition();
        noSuchMessage();
        removeNeedsFlag0();
        sixVanished();
        horizonIsTheMarkOfTheEntry();
        cleanNone();
        cleanSixAndSeven();
        cleanTwenty();
        cleanSome();
        copyToTwenty();
        renewEmpty();
        renewFull();
        renewWithSixVanished();
        horizonAfterRenewal();
        positionsOfMessages();
        positionsOfVanished();
        atMost();
        changedAfter();
        Check.end();
    }
}
