import java.util.ArrayList;
import java.util.List;

/** What the tests look at: each number of a thing must be the one that is due. */
final class Look {
    private interface Asked {
        long at(int what);
    }

    private Look() {
    }

    private static void same(String when, String asked, Asked got, int... due) {
        for (int what = 0; what < due.length; what++) {
            Check.same(when + ": " + asked + " " + what, got.at(what), due[what]);
        }
    }

    static void box(String when, MailSync x, int box, int... due) {
        same(when, "box " + box + ", what", what -> x.box(box, what), due);
    }

    static void message(String when, MailSync x, int box, int k, int... due) {
        same(when, "message of box " + box + " at " + k + ", what", what -> x.message(box, k, what), due);
    }

    /** The whole list of what vanished: name and mark of each entry, from the oldest. */
    static void vanished(String when, MailSync x, int box, int... due) {
        Check.same(when + ": length of what vanished", x.box(box, 5), due.length / 2);
        same(when, "vanished from box " + box + ", number", k -> x.vanished(box, k / 2, k % 2 == 1), due);
        Check.same(when + ": behind what vanished", x.vanished(box, due.length / 2, false), -1);
    }

    static void copyOf(String when, MailSync x, int machine, int box, int... due) {
        same(when, "copy of machine " + machine + ", box " + box + ", what", what -> x.copyOf(machine, box, what), due);
    }

    static void copied(String when, MailSync x, int machine, int box, int k, int... due) {
        same(when, "copied by machine " + machine + ", box " + box + " at " + k + ", what",
                what -> x.copied(machine, box, k, what), due);
    }

    static void view(String when, MailSync x, int machine, int box, int k, int... due) {
        same(when, "view of machine " + machine + ", box " + box + " at " + k + ", what",
                what -> x.view(machine, box, k, what), due);
    }

    /** The names of the whole view. */
    static void viewNames(String when, MailSync x, int machine, int box, int... due) {
        Check.same(when + ": length of the view", x.copyOf(machine, box, 3), due.length);
        same(when, "name in the view of machine " + machine + ", box " + box + " at",
                k -> x.view(machine, box, k, 0), due);
        Check.same(when + ": behind the view", x.view(machine, box, due.length, 1), -1);
    }

    static void deed(String when, MailSync x, int machine, int k, int... due) {
        same(when, "deed of machine " + machine + " at " + k + ", what", what -> x.deed(machine, k, what), due);
    }

    /** The numbers of all deeds of a machine. */
    static void deeds(String when, MailSync x, int machine, int... due) {
        same(when, "number of the deed of machine " + machine + " at", k -> x.deed(machine, k, 0), due);
        Check.same(when + ": behind the deeds", x.deed(machine, due.length, 0), -1);
    }

    /** All noted outcomes: number and outcome of each, from the one that was noted first. */
    static void noted(String when, MailSync x, int... due) {
        same(when, "noted, number", k -> k % 2 == 0 ? x.noted(k / 2) : x.outcome(x.noted(k / 2)), due);
        Check.same(when + ": behind what is noted", x.noted(due.length / 2), -1);
    }

    static void told(String when, MailSync x, int... due) {
        same(when, "told", x::told, due);
    }

    /** Everything that can be asked, in one text, without the number of records. */
    static String all(MailSync x) {
        List<Integer> seen = new ArrayList<>();
        for (int b = 0; b < 3; b++) {
            for (int what = 0; what < 6; what++) {
                seen.add(x.box(b, what));
            }
            for (int k = 0; k < 21; k++) {
                for (int what = 0; what < 4; what++) {
                    seen.add(x.message(b, k, what));
                }
                seen.add(x.vanished(b, k, true));
                seen.add(x.vanished(b, k, false));
            }
        }
        for (int m = 0; m < 4; m++) {
            addMachine(seen, x, m);
        }
        for (int k = 0; k < 10; k++) {
            seen.add(x.noted(k));
            seen.add(x.outcome(x.noted(k)));
            seen.add(x.nameOf(x.noted(k)));
        }
        for (int what = 0; what < 7; what++) {
            seen.add(x.told(what));
        }
        return seen.toString();
    }

    private static void addMachine(List<Integer> seen, MailSync x, int m) {
        for (int b = 0; b < 3; b++) {
            for (int what = 0; what < 4; what++) {
                seen.add(x.copyOf(m, b, what));
            }
            for (int k = 0; k < 30; k++) {
                for (int what = 0; what < 4; what++) {
                    seen.add(x.copied(m, b, k, what));
                }
            }
        }
        for (int k = 0; k < 8; k++) {
            for (int what = 0; what < 7; what++) {
                seen.add(x.deed(m, k, what));
            }
        }
    }
}
