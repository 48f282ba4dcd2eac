/** Promises 1 to 12: a new object, and the server. */
final class ServerTest {
    private static final Class<?> INDEX = IndexOutOfBoundsException.class;
    private static final Class<?> ARGUMENT = IllegalArgumentException.class;
    private static final Class<?> STATE = IllegalStateException.class;

    private static MailSync withFull(int box) {
        MailSync x = new MailSync();
        for (int k = 0; k < 20; k++) {
            x.add(box, k, k % 2);
        }
        return x;
    }

    private static void promise1() {
        MailSync x = new MailSync();
        for (int b = 0; b < 3; b++) {
            Look.box("new", x, b, 1, 1, 0, 0, 0, 0);
            Look.message("new", x, b, 0, -1, -1, -1, -1);
            for (int m = 0; m < 4; m++) {
                for (int what = 0; what < 4; what++) {
                    Check.same("new: copyOf", x.copyOf(m, b, what), 0);
                }
            }
        }
        for (int m = 0; m < 4; m++) {
            Check.same("new: deed", x.deed(m, 0, 0), -1);
            Check.same("new: policy", x.setPolicy(m, 0), 0);
        }
        for (int what = 0; what < 7; what++) {
            Check.same("new: told", new MailSync().told(what), 0);
        }
        Check.same("new: noted", new MailSync().noted(0), -1);
        Check.refuses("new: undo", new MailSync(), STATE, () -> new MailSync().undo());
        Check.same("two new ones", new MailSync().checksum(), new MailSync().checksum());
        Check.same("NONE", MailSync.NONE, -1);
    }

    private static void promise2() {
        MailSync x = new MailSync();
        Check.same("add", x.add(1, 999, 63), 1);
        Check.same("add", x.add(1, 0, 0), 2);
        Check.same("add", x.add(2, 5, 6), 1);
        Look.box("added", x, 1, 1, 3, 2, 2, 0, 0);
        Look.message("added", x, 1, 0, 1, 999, 63, 1);
        Look.message("added", x, 1, 1, 2, 0, 0, 2);
        Look.box("added", x, 0, 1, 1, 0, 0, 0, 0);
        Check.refuses("add to box 3", x, INDEX, () -> x.add(3, 1000, 64));
        Check.refuses("add to box -1", x, INDEX, () -> x.add(-1, 0, 0));
        Check.refuses("content 1000", x, ARGUMENT, () -> x.add(0, 1000, 0));
        Check.refuses("content -1", x, ARGUMENT, () -> x.add(0, -1, 0));
        Check.refuses("flags 64", x, ARGUMENT, () -> x.add(0, 0, 64));
        Check.refuses("flags -1", x, ARGUMENT, () -> x.add(0, 0, -1));
        MailSync full = withFull(0);
        Look.box("full", full, 0, 1, 21, 20, 20, 0, 0);
        Check.refuses("add to a full box", full, STATE, () -> full.add(0, 0, 0));
        Check.refuses("wrong content for a full box", full, ARGUMENT, () -> full.add(0, 1000, 0));
        Check.same("another box has room", full.add(1, 0, 0), 1);
    }

    private static void promise3() {
        MailSync x = new MailSync();
        x.add(0, 7, 12);
        x.add(0, 8, 0);
        Check.same("set", x.change(0, 1, 0, 3, -1), 3);
        Look.message("set", x, 0, 0, 1, 7, 3, 3);
        Check.same("add flags", x.change(0, 1, 1, 6, -1), 7);
        Check.same("take flags off", x.change(0, 1, 2, 34, 4), 5);
        Look.message("taken off", x, 0, 0, 1, 7, 5, 5);
        Check.same("same flags", x.change(0, 1, 0, 5, -1), 5);
        Look.message("same flags", x, 0, 0, 1, 7, 5, 5);
        Look.box("same flags", x, 0, 1, 3, 5, 2, 0, 0);
        Check.refuses("since too old", x, STATE, () -> x.change(0, 1, 0, 9, 4));
        Check.refuses("since 0", x, STATE, () -> x.change(0, 2, 0, 9, 0));
        Check.refuses("since for the same flags", x, STATE, () -> x.change(0, 1, 0, 5, 4));
        Check.same("since is its mark", x.change(0, 1, 0, 9, 5), 9);
        Check.same("since is later", x.change(0, 2, 1, 63, 100), 63);
        Check.refuses("no box", x, INDEX, () -> x.change(3, 1, 3, 64, -2));
        Check.refuses("no message", x, INDEX, () -> x.change(0, 3, 3, 64, -2));
        Check.refuses("message 0", x, INDEX, () -> x.change(0, 0, 0, 0, -1));
        Check.refuses("message -1", x, INDEX, () -> x.change(0, -1, 0, 0, -1));
        Check.refuses("how 3", x, ARGUMENT, () -> x.change(0, 1, 3, 0, 0));
        Check.refuses("how -1", x, ARGUMENT, () -> x.change(0, 1, -1, 0, 0));
        Check.refuses("flags 64", x, ARGUMENT, () -> x.change(0, 1, 0, 64, 0));
        Check.refuses("flags -1", x, ARGUMENT, () -> x.change(0, 1, 0, -1, 0));
        Check.refuses("since -2", x, ARGUMENT, () -> x.change(0, 1, 0, 0, -2));
    }

    private static void promise4() {
        MailSync x = new MailSync();
        x.add(2, 1, 1);
        x.add(2, 2, 62);
        x.add(2, 3, 63);
        Check.same("remove", x.remove(2, 1), 2);
        Look.box("removed", x, 2, 1, 4, 4, 2, 0, 1);
        Check.same("its name vanished", x.vanished(2, 0, false), 1);
        Check.same("its mark", x.vanished(2, 0, true), 4);
        Look.message("removed", x, 2, 0, 2, 2, 62, 2);
        Check.refuses("without flag 0", x, STATE, () -> x.remove(2, 2));
        Check.refuses("gone", x, INDEX, () -> x.remove(2, 1));
        Check.refuses("no box", x, INDEX, () -> x.remove(-1, 1));
        Check.same("remove", x.remove(2, 3), 1);
        Check.same("names are not used again", x.add(2, 0, 0), 4);
    }

    private static void promise5() {
        MailSync x = withFull(0);
        Check.same("clean", x.clean(0), 10);
        Look.box("cleaned", x, 0, 1, 21, 30, 10, 24, 6);
        Check.same("the oldest entry", x.vanished(0, 0, false), 10);
        Check.same("its mark", x.vanished(0, 0, true), 25);
        Check.same("the latest entry", x.vanished(0, 5, false), 20);
        Check.same("its mark", x.vanished(0, 5, true), 30);
        Look.message("cleaned", x, 0, 0, 1, 0, 0, 1);
        Look.message("cleaned", x, 0, 9, 19, 18, 0, 19);
        Check.same("clean again", x.clean(0), 0);
        Look.box("cleaned again", x, 0, 1, 21, 30, 10, 24, 6);
        Check.refuses("no box", x, INDEX, () -> x.clean(3));
    }

    private static void promise6() {
        MailSync x = new MailSync();
        x.add(0, 77, 5);
        x.add(0, 78, 6);
        x.add(1, 1, 1);
        Check.same("copy to another", x.copy(0, 2, 1), 2);
        Look.message("copied", x, 1, 1, 2, 78, 6, 2);
        Check.same("copy to the same", x.copy(0, 1, 0), 3);
        Look.message("copied", x, 0, 2, 3, 77, 5, 3);
        Look.message("the first one stays", x, 0, 0, 1, 77, 5, 1);
        Check.refuses("no box", x, INDEX, () -> x.copy(3, 1, 0));
        Check.refuses("no box to add to", x, INDEX, () -> x.copy(0, 1, 3));
        Check.refuses("no box to add to", x, INDEX, () -> x.copy(0, 1, -1));
        Check.refuses("no message", x, INDEX, () -> x.copy(1, 3, 0));
        MailSync full = withFull(2);
        full.add(0, 9, 9);
        Check.refuses("full", full, STATE, () -> full.copy(0, 1, 2));
        Check.refuses("full, the same", full, STATE, () -> full.copy(2, 1, 2));
        Check.refuses("full, and no message", full, INDEX, () -> full.copy(0, 2, 2));
        Check.same("from the full one", full.copy(2, 20, 0), 2);
    }

    private static void promise7() {
        MailSync x = new MailSync();
        for (int k = 1; k <= 5; k++) {
            x.add(1, 10 * k, 1);
        }
        x.remove(1, 2);
        x.remove(1, 4);
        Check.same("renew", x.renew(1), 2);
        Look.box("renewed", x, 1, 2, 4, 8, 3, 8, 0);
        Look.message("renewed", x, 1, 0, 1, 10, 1, 8);
        Look.message("renewed", x, 1, 1, 2, 30, 1, 8);
        Look.message("renewed", x, 1, 2, 3, 50, 1, 8);
        Check.same("nothing vanished", x.vanished(1, 0, false), -1);
        Check.same("the next name", x.add(1, 0, 0), 4);
        Check.same("renew an empty box", x.renew(0), 2);
        Look.box("renewed", x, 0, 2, 1, 1, 0, 1, 0);
        Check.refuses("no box", x, INDEX, () -> x.renew(3));
    }

    private static void promises8to10() {
        MailSync x = new MailSync();
        Check.refuses("box: no box", x, INDEX, () -> x.box(3, 6));
        Check.refuses("box: what 6", x, ARGUMENT, () -> x.box(2, 6));
        Check.refuses("box: what -1", x, ARGUMENT, () -> x.box(2, -1));
        Check.refuses("message: no box", x, INDEX, () -> x.message(-1, 0, 4));
        Check.refuses("message: what 4", x, ARGUMENT, () -> x.message(0, 50, 4));
        Check.refuses("message: what -1", x, ARGUMENT, () -> x.message(0, 0, -1));
        Check.refuses("vanished: no box", x, INDEX, () -> x.vanished(3, 0, true));
        for (int k = 1; k <= 9; k++) {
            x.add(0, k, 1);
        }
        for (int k = 9; k >= 4; k--) {
            x.remove(0, k);
        }
        Look.box("6 vanished", x, 0, 1, 10, 15, 3, 0, 6);
        Check.same("the oldest entry", x.vanished(0, 0, false), 9);
        x.remove(0, 1);
        Look.box("7 vanished", x, 0, 1, 10, 16, 2, 10, 6);
        Check.same("the oldest entry", x.vanished(0, 0, false), 8);
        Check.same("its mark", x.vanished(0, 0, true), 11);
        Check.same("the latest entry", x.vanished(0, 5, false), 1);
        Check.same("its mark", x.vanished(0, 5, true), 16);
        for (int k : new int[] {-1, 6, Integer.MIN_VALUE, Integer.MAX_VALUE}) {
            Check.same("vanished at " + k, x.vanished(0, k, true), -1);
            Check.same("vanished at " + k, x.vanished(0, k, false), -1);
        }
        for (int k : new int[] {-1, 2, 1 << 30, Integer.MIN_VALUE, Integer.MAX_VALUE}) {
            Look.message("no such position", x, 0, k, -1, -1, -1, -1);
        }
    }

    private static void promises11and12() {
        MailSync x = new MailSync();
        Check.same("atMost in an empty box", x.atMost(0, 5), -1);
        Check.same("changedAfter in an empty box", x.changedAfter(0, -1), -1);
        for (int k = 1; k <= 6; k++) {
            x.add(0, k, 1);
        }
        x.remove(0, 1);
        x.remove(0, 4);
        x.change(0, 2, 0, 33, -1);
        Check.same("atMost 1", x.atMost(0, 1), -1);
        Check.same("atMost 2", x.atMost(0, 2), 2);
        Check.same("atMost 4", x.atMost(0, 4), 3);
        Check.same("atMost of all", x.atMost(0, Integer.MAX_VALUE), 6);
        Check.same("atMost of none", x.atMost(0, Integer.MIN_VALUE), -1);
        Check.same("changedAfter -5", x.changedAfter(0, -5), 3);
        Check.same("changedAfter 3", x.changedAfter(0, 3), 5);
        Check.same("changedAfter 6", x.changedAfter(0, 6), 2);
        Check.same("changedAfter 9", x.changedAfter(0, 9), -1);
        x.renew(0);
        Check.same("of several the smallest name", x.changedAfter(0, 9), 1);
        Check.same("none after them", x.changedAfter(0, 10), -1);
        x.change(0, 1, 1, 8, -1);
        Check.same("the smallest name among the equal ones", x.changedAfter(0, 9), 2);
        Check.refuses("atMost: no box", x, INDEX, () -> x.atMost(3, 1));
        Check.refuses("changedAfter: no box", x, INDEX, () -> x.changedAfter(-1, 1));
    }

    public static void main(String[] args) {
        promise1();
        promise2();
        promise3();
        promise4();
        promise5();
        promise6();
        promise7();
        promises8to10();
        promises11and12();
        Check.end();
    }
}
