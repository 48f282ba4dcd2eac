import java.util.Arrays;

/**
 * Boxes of mail on a server, and machines that keep copies of them, do deeds while they are away,
 * play them back later, and sync.
 *
 * Everything that undo() brings back stands in one State; the records are States too, made once
 * and used again. Every method of the face looks at its arguments first, keeps a record if it is
 * undoable, and only then changes something, so that a call that throws changes nothing.
 */
public final class MailSync {
    public static final int NONE = -1;

    private static final int BOXES = 3;
    private static final int MACHINES = 4;
    private static final int RECORDS = 4;
    private static final int COUNTS = 7;

    private static final int BOX_ROOM = 20;
    private static final int VANISHED_ROOM = 6;
    private static final int DEED_ROOM = 8;
    private static final int OUTCOME_ROOM = 10;
    // A copy that lags behind its box keeps what the box has lost while played back deeds add to
    // it, one for each call of planNew: 512 calls cannot bring it above this.
    private static final int COPY_ROOM = BOX_ROOM + 512;
    private static final int VIEW_ROOM = COPY_ROOM + DEED_ROOM;

    private static final int MOST_CONTENT = 999;
    private static final int ALL_FLAGS = 63;
    private static final int MAY_BE_REMOVED = 1;

    // The columns of messages and of deeds have the numbers that the document gives to "what", so
    // that the face can hand its argument on.
    private static final int NAME = 0;
    private static final int CONTENT = 1;
    private static final int FLAGS = 2;
    private static final int MARK = 3;
    private static final int MESSAGE_WIDTH = 4;
    private static final int VIEW_WIDTH = 3;

    private static final int VANISHED_NAME = 0;
    private static final int VANISHED_MARK = 1;
    private static final int VANISHED_WIDTH = 2;

    private static final int DEED_NUMBER = 0;
    private static final int DEED_KIND = 1;
    private static final int DEED_BOX = 2;
    private static final int DEED_NAME = 3;
    private static final int DEED_ADDED = 4;
    private static final int DEED_TAKEN = 5;
    private static final int DEED_CONTENT = 6;
    private static final int DEED_WIDTH = 7;

    private static final int KIND_FLAGS = 0;
    private static final int KIND_NEW = 1;
    private static final int KIND_REMOVAL = 2;

    private static final int NOTED_DEED = 0;
    private static final int NOTED_OUTCOME = 1;
    private static final int NOTED_NAME = 2;
    private static final int NOTED_WIDTH = 3;

    private static final int DONE = 0;
    private static final int MERGED = 1;
    private static final int GONE = 2;
    private static final int OTHER_ERA = 3;
    private static final int REFUSED = 4;
    private static final int NO_ROOM = 5;

    private static final int MERGE = 0;
    private static final int YIELD = 1;

    private static final int SYNC_ALL = 1;
    private static final int SYNC_BY_MARKS = 2;
    private static final int SYNC_BY_COMPARING = 3;

    private static final int TOLD_MESSAGES = 0;
    private static final int TOLD_NAMES = 1;
    // The cases of syncing are 1 to 3 and are counted at 2 to 4.
    private static final int TOLD_BEFORE_CASES = 1;
    private static final int TOLD_MERGED = 5;
    private static final int TOLD_FAILED = 6;

    private State now = new State();
    private final State[] records = new State[RECORDS];
    private int recordCount = 0;
    // Views are worked out in these two tables whenever they are asked for.
    private final Table viewRows = new Table(VIEW_WIDTH, VIEW_ROOM, BOX_ROOM + DEED_ROOM);
    private final Table otherViewRows = new Table(VIEW_WIDTH, VIEW_ROOM, BOX_ROOM + DEED_ROOM);

    public MailSync() {
        for (int k = 0; k < RECORDS; k++) {
            records[k] = new State();
        }
    }

    // ---- the server

    public int add(int box, int content, int flags)
            throws IndexOutOfBoundsException, IllegalArgumentException, IllegalStateException {
        needBox(box);
        needContent(content);
        needFlags(flags);
        needRoomIn(box);
        keepRecord();
        return now.boxes[box].addMessage(content, flags);
    }

    public int change(int box, int name, int how, int flags, int since)
            throws IndexOutOfBoundsException, IllegalArgumentException, IllegalStateException {
        needBox(box);
        int row = needMessage(box, name);
        needHow(how);
        needFlags(flags);
        if (since < NONE) {
            throw new IllegalArgumentException("since is less than -1");
        }
        Box changed = now.boxes[box];
        if (since != NONE && changed.messages.cell(row, MARK) > since) {
            throw new IllegalStateException("the message was changed since");
        }
        keepRecord();
        int added = flagsAdded(how, flags);
        int taken = flagsTaken(how, flags);
        changed.changeFlags(row, mixFlags(changed.messages.cell(row, FLAGS), added, taken));
        return changed.messages.cell(row, FLAGS);
    }

    public int remove(int box, int name) throws IndexOutOfBoundsException, IllegalStateException {
        needBox(box);
        int row = needMessage(box, name);
        Box changed = now.boxes[box];
        if (!changed.mayRemove(row)) {
            throw new IllegalStateException("the message does not have flag 0");
        }
        keepRecord();
        changed.removeMessage(row);
        return changed.messages.size;
    }

    public int clean(int box) throws IndexOutOfBoundsException {
        needBox(box);
        keepRecord();
        return now.boxes[box].removeAllThatMay();
    }

    public int copy(int box, int name, int to) throws IndexOutOfBoundsException, IllegalStateException {
        needBox(box);
        needBox(to);
        int row = needMessage(box, name);
        needRoomIn(to);
        keepRecord();
        Table messages = now.boxes[box].messages;
        return now.boxes[to].addMessage(messages.cell(row, CONTENT), messages.cell(row, FLAGS));
    }

    public int renew(int box) throws IndexOutOfBoundsException {
        needBox(box);
        keepRecord();
        now.boxes[box].beginEra();
        return now.boxes[box].era;
    }

    public int box(int box, int what) throws IndexOutOfBoundsException, IllegalArgumentException {
        needBox(box);
        needWhat(what, 5);
        return now.boxes[box].number(what);
    }

    public int message(int box, int k, int what)
            throws IndexOutOfBoundsException, IllegalArgumentException {
        needBox(box);
        needWhat(what, 3);
        return now.boxes[box].messages.cell(k, what);
    }

    public int vanished(int box, int k, boolean mark) throws IndexOutOfBoundsException {
        needBox(box);
        return now.boxes[box].lost.cell(k, mark ? VANISHED_MARK : VANISHED_NAME);
    }

    public int atMost(int box, int name) throws IndexOutOfBoundsException {
        needBox(box);
        return now.boxes[box].nameAtMost(name);
    }

    public int changedAfter(int box, int mark) throws IndexOutOfBoundsException {
        needBox(box);
        return now.boxes[box].nameChangedAfter(mark);
    }

    // ---- machines

    public int setPolicy(int machine, int policy)
            throws IndexOutOfBoundsException, IllegalArgumentException {
        needMachine(machine);
        if (policy != MERGE && policy != YIELD) {
            throw new IllegalArgumentException("policy is neither 0 nor 1");
        }
        keepRecord();
        int previous = now.machines[machine].policy;
        now.machines[machine].policy = policy;
        return previous;
    }

    public int sync(int machine, int box) throws IndexOutOfBoundsException {
        needMachine(machine);
        needBox(box);
        keepRecord();
        return now.syncBox(now.machines[machine], box);
    }

    public int syncCost(int machine, int box) throws IndexOutOfBoundsException {
        needMachine(machine);
        needBox(box);
        Copy asking = now.machines[machine].copies[box];
        Box asked = now.boxes[box];
        return asking.messagesDue(asked) + asking.namesDue(asked);
    }

    public int copyOf(int machine, int box, int what)
            throws IndexOutOfBoundsException, IllegalArgumentException {
        needMachine(machine);
        needBox(box);
        needWhat(what, 3);
        Machine asked = now.machines[machine];
        switch (what) {
            case 0:
                return asked.copies[box].era;
            case 1:
                return asked.copies[box].mark;
            case 2:
                return asked.copies[box].messages.size;
            default:
                asked.fillView(box, viewRows);
                return viewRows.size;
        }
    }

    public int copied(int machine, int box, int k, int what)
            throws IndexOutOfBoundsException, IllegalArgumentException {
        needMachine(machine);
        needBox(box);
        needWhat(what, 3);
        return now.machines[machine].copies[box].messages.cell(k, what);
    }

    public int view(int machine, int box, int k, int what)
            throws IndexOutOfBoundsException, IllegalArgumentException {
        needMachine(machine);
        needBox(box);
        needWhat(what, 2);
        now.machines[machine].fillView(box, viewRows);
        return viewRows.cell(k, what);
    }

    public int different(int machine, int box) throws IndexOutOfBoundsException {
        needMachine(machine);
        needBox(box);
        now.machines[machine].fillView(box, viewRows);
        Table messages = now.boxes[box].messages;
        int count = 0;
        for (int k = 0; k < viewRows.size; k++) {
            int row = messages.rowWith(NAME, viewRows.cell(k, NAME));
            if (row == NONE || !showTheSame(viewRows, k, messages, row)) {
                count++;
            }
        }
        for (int k = 0; k < messages.size; k++) {
            if (viewRows.rowWith(NAME, messages.cell(k, NAME)) == NONE) {
                count++;
            }
        }
        return count;
    }

    public boolean areAlike(int one, int other, int box) throws IndexOutOfBoundsException {
        needMachine(one);
        needMachine(other);
        needBox(box);
        now.machines[one].fillView(box, viewRows);
        now.machines[other].fillView(box, otherViewRows);
        if (viewRows.size != otherViewRows.size) {
            return false;
        }
        for (int k = 0; k < viewRows.size; k++) {
            if (!showTheSame(viewRows, k, otherViewRows, k)) {
                return false;
            }
        }
        return true;
    }

    // ---- deeds

    public int plan(int machine, int box, int name, int how, int flags)
            throws IndexOutOfBoundsException, IllegalArgumentException, IllegalStateException {
        needMachine(machine);
        needBox(box);
        needHow(how);
        needFlags(flags);
        needMessageToPlanFor(machine, box, name);
        Machine planner = now.machines[machine];
        int row = planner.deedFor(KIND_FLAGS, box, name);
        if (row == NONE) {
            needRoomForDeed(machine);
        }
        keepRecord();
        if (row == NONE) {
            row = now.appendDeed(planner, KIND_FLAGS, box, name);
        }
        planner.addToFlagDeed(row, flagsAdded(how, flags), flagsTaken(how, flags));
        return planner.deeds.cell(row, DEED_NUMBER);
    }

    public int planNew(int machine, int box, int content, int flags)
            throws IndexOutOfBoundsException, IllegalArgumentException, IllegalStateException {
        needMachine(machine);
        needBox(box);
        needContent(content);
        needFlags(flags);
        needRoomForDeed(machine);
        keepRecord();
        Machine planner = now.machines[machine];
        int row = now.appendDeed(planner, KIND_NEW, box, NONE);
        planner.deeds.put(row, DEED_ADDED, flags);
        planner.deeds.put(row, DEED_CONTENT, content);
        return planner.deeds.cell(row, DEED_NUMBER);
    }

    public int planRemoval(int machine, int box, int name)
            throws IndexOutOfBoundsException, IllegalStateException {
        needMachine(machine);
        needBox(box);
        needMessageToPlanFor(machine, box, name);
        needRoomForDeed(machine);
        keepRecord();
        Machine planner = now.machines[machine];
        int row = now.appendDeed(planner, KIND_REMOVAL, box, name);
        return planner.deeds.cell(row, DEED_NUMBER);
    }

    public int takeBack(int machine, int deed) throws IndexOutOfBoundsException, IllegalStateException {
        needMachine(machine);
        Table deeds = now.machines[machine].deeds;
        int row = deeds.rowWith(DEED_NUMBER, deed);
        if (row == NONE) {
            throw new IllegalStateException("the machine has no such deed");
        }
        keepRecord();
        deeds.erase(row);
        return deeds.size;
    }

    public int deed(int machine, int k, int what)
            throws IndexOutOfBoundsException, IllegalArgumentException {
        needMachine(machine);
        needWhat(what, 6);
        return now.machines[machine].deeds.cell(k, what);
    }

    public int playBack(int machine) throws IndexOutOfBoundsException {
        needMachine(machine);
        keepRecord();
        return now.playDeeds(now.machines[machine]);
    }

    public int outcome(int deed) {
        return now.noted.cell(now.noted.rowWith(NOTED_DEED, deed), NOTED_OUTCOME);
    }

    public int nameOf(int deed) {
        return now.noted.cell(now.noted.rowWith(NOTED_DEED, deed), NOTED_NAME);
    }

    public int noted(int k) {
        return now.noted.cell(k, NOTED_DEED);
    }

    public int settle() {
        keepRecord();
        for (int m = 0; m < MACHINES; m++) {
            now.playDeeds(now.machines[m]);
        }
        int sent = 0;
        for (int m = 0; m < MACHINES; m++) {
            for (int b = 0; b < BOXES; b++) {
                sent += now.syncBox(now.machines[m], b);
            }
        }
        return sent;
    }

    public int told(int what) throws IllegalArgumentException {
        needWhat(what, 6);
        return now.counts[what];
    }

    // ---- undo, checksum

    public int undo() throws IllegalStateException {
        if (recordCount <= 0) {
            throw new IllegalStateException("there is no record");
        }
        recordCount--;
        State left = now;
        now = records[recordCount];
        records[recordCount] = left;
        return recordCount;
    }

    public long checksum() {
        long h = 12861;
        for (int b = 0; b < BOXES; b++) {
            h = now.boxes[b].mixInto(h);
        }
        for (int m = 0; m < MACHINES; m++) {
            h = mixMachine(h, m);
        }
        for (int k = 0; k < now.noted.size; k++) {
            h = 31 * h + now.noted.cell(k, NOTED_DEED);
            h = 31 * h + now.noted.cell(k, NOTED_OUTCOME);
        }
        for (int what = 0; what < COUNTS; what++) {
            h = 31 * h + now.counts[what];
        }
        return 31 * h + recordCount;
    }

    private long mixMachine(long before, int machine) {
        long h = 31 * before + now.machines[machine].policy;
        for (int b = 0; b < BOXES; b++) {
            for (int what = 0; what <= 3; what++) {
                h = 31 * h + copyOf(machine, b, what);
            }
            h = now.machines[machine].copies[b].messages.mixInto(h);
        }
        return now.machines[machine].deeds.mixInto(h);
    }

    // ---- what the face needs before it does something

    private static void needBox(int box) {
        if (box < 0 || box >= BOXES) {
            throw new IndexOutOfBoundsException("there is no such box");
        }
    }

    private static void needMachine(int machine) {
        if (machine < 0 || machine >= MACHINES) {
            throw new IndexOutOfBoundsException("there is no such machine");
        }
    }

    private static void needContent(int content) {
        if (content < 0 || content > MOST_CONTENT) {
            throw new IllegalArgumentException("content is not 0 to 999");
        }
    }

    private static void needFlags(int flags) {
        if (flags < 0 || flags > ALL_FLAGS) {
            throw new IllegalArgumentException("flags is not 0 to 63");
        }
    }

    private static void needHow(int how) {
        if (how < 0 || how > 2) {
            throw new IllegalArgumentException("how is not 0 to 2");
        }
    }

    private static void needWhat(int what, int greatest) {
        if (what < 0 || what > greatest) {
            throw new IllegalArgumentException("there is no such number to ask for");
        }
    }

    private int needMessage(int box, int name) {
        int row = now.boxes[box].messages.rowWith(NAME, name);
        if (row == NONE) {
            throw new IndexOutOfBoundsException("the box has no such message");
        }
        return row;
    }

    private void needRoomIn(int box) {
        if (now.boxes[box].isFull()) {
            throw new IllegalStateException("the box has 20 messages");
        }
    }

    private void needMessageToPlanFor(int machine, int box, int name) {
        Machine planner = now.machines[machine];
        if (planner.copies[box].messages.rowWith(NAME, name) == NONE) {
            throw new IllegalStateException("the copy has no such message");
        }
        if (planner.deedFor(KIND_REMOVAL, box, name) != NONE) {
            throw new IllegalStateException("the message is to be removed");
        }
    }

    private void needRoomForDeed(int machine) {
        if (now.machines[machine].deeds.size >= DEED_ROOM) {
            throw new IllegalStateException("there are 8 deeds");
        }
    }

    private void keepRecord() {
        if (recordCount >= RECORDS) {
            State oldest = records[0];
            for (int k = 1; k < RECORDS; k++) {
                records[k - 1] = records[k];
            }
            records[RECORDS - 1] = oldest;
            recordCount = RECORDS - 1;
        }
        records[recordCount].takeFrom(now);
        recordCount++;
    }

    // ---- flags, and messages side by side

    private static int flagsAdded(int how, int flags) {
        return how == 2 ? 0 : flags;
    }

    private static int flagsTaken(int how, int flags) {
        if (how == 0) {
            return ALL_FLAGS & ~flags;
        }
        return how == 2 ? flags : 0;
    }

    private static int mixFlags(int flags, int added, int taken) {
        return (flags & ~taken) | added;
    }

    private static boolean showTheSame(Table one, int row, Table other, int otherRow) {
        return one.cell(row, NAME) == other.cell(otherRow, NAME)
                && one.cell(row, CONTENT) == other.cell(otherRow, CONTENT)
                && one.cell(row, FLAGS) == other.cell(otherRow, FLAGS);
    }

    /** Rows of numbers, all of one width. No index goes astray: what is not there is NONE. */
    private static final class Table {
        private final int width;
        private final int limit;
        private int size = 0;
        private int[] cells;

        Table(int width, int limit, int firstRoom) {
            this.width = width;
            this.limit = limit;
            this.cells = new int[Math.max(0, width * firstRoom)];
        }

        int cell(int row, int column) {
            if (row < 0 || row >= size || column < 0 || column >= width) {
                return NONE;
            }
            return cells[row * width + column];
        }

        void put(int row, int column, int value) {
            if (row >= 0 && row < size && column >= 0 && column < width) {
                cells[row * width + column] = value;
            }
        }

        int rowWith(int column, int value) {
            for (int row = 0; row < size; row++) {
                if (cell(row, column) == value) {
                    return row;
                }
            }
            return NONE;
        }

        /** Makes a row of zeros; tells whether there was room for it. */
        boolean open(int row) {
            if (row < 0 || row > size || size >= limit) {
                return false;
            }
            if ((size + 1) * width > cells.length) {
                // Twice the room, so that a copy that goes on growing is seldom moved.
                cells = Arrays.copyOf(cells, Math.min(limit, 2 * (size + 1)) * width);
            }
            System.arraycopy(cells, row * width, cells, (row + 1) * width, (size - row) * width);
            for (int column = 0; column < width; column++) {
                cells[row * width + column] = 0;
            }
            size++;
            return true;
        }

        void erase(int row) {
            if (row < 0 || row >= size) {
                return;
            }
            System.arraycopy(cells, (row + 1) * width, cells, row * width, (size - row - 1) * width);
            size--;
        }

        void eraseAll() {
            size = 0;
        }

        /** The other table must have the same width. */
        void takeFrom(Table other) {
            if (other.size * width > cells.length) {
                cells = new int[other.cells.length];
            }
            System.arraycopy(other.cells, 0, cells, 0, other.size * width);
            size = other.size;
        }

        long mixInto(long before) {
            long h = before;
            for (int row = 0; row < size; row++) {
                for (int column = 0; column < width; column++) {
                    h = 31 * h + cell(row, column);
                }
            }
            return h;
        }

        /** For tables of messages, which stand in ascending order of their names. */
        void storeMessage(int name, int content, int flags, int mark) {
            int row = 0;
            while (row < size && cell(row, NAME) < name) {
                row++;
            }
            boolean isThere = row < size && cell(row, NAME) == name;
            if (isThere || open(row)) {
                put(row, NAME, name);
                put(row, CONTENT, content);
                put(row, FLAGS, flags);
                put(row, MARK, mark);
            }
        }
    }

    /** A box on the server. */
    private static final class Box {
        private int era = 1;
        private int nextName = 1;
        private int mark = 0;
        private int horizon = 0;
        private final Table messages = new Table(MESSAGE_WIDTH, BOX_ROOM, BOX_ROOM);
        private final Table lost = new Table(VANISHED_WIDTH, VANISHED_ROOM, VANISHED_ROOM);

        boolean isFull() {
            return messages.size >= BOX_ROOM;
        }

        boolean mayRemove(int row) {
            return (messages.cell(row, FLAGS) & MAY_BE_REMOVED) != 0;
        }

        int addMessage(int content, int flags) {
            int name = nextName;
            mark++;
            nextName++;
            messages.storeMessage(name, content, flags, mark);
            return name;
        }

        void changeFlags(int row, int flags) {
            if (messages.cell(row, FLAGS) != flags) {
                mark++;
                messages.put(row, FLAGS, flags);
                messages.put(row, MARK, mark);
            }
        }

        void removeMessage(int row) {
            int name = messages.cell(row, NAME);
            mark++;
            messages.erase(row);
            if (lost.size >= VANISHED_ROOM) {
                horizon = lost.cell(0, VANISHED_MARK);
                lost.erase(0);
            }
            int last = lost.size;
            if (lost.open(last)) {
                lost.put(last, VANISHED_NAME, name);
                lost.put(last, VANISHED_MARK, mark);
            }
        }

        int removeAllThatMay() {
            int before = messages.size;
            int row = 0;
            for (int seen = 0; seen < before; seen++) {
                if (mayRemove(row)) {
                    removeMessage(row);
                } else {
                    row++;
                }
            }
            return before - messages.size;
        }

        void beginEra() {
            era++;
            mark++;
            for (int row = 0; row < messages.size; row++) {
                messages.put(row, NAME, row + 1);
                messages.put(row, MARK, mark);
            }
            nextName = messages.size + 1;
            lost.eraseAll();
            horizon = mark;
        }

        int number(int what) {
            switch (what) {
                case 0:
                    return era;
                case 1:
                    return nextName;
                case 2:
                    return mark;
                case 3:
                    return messages.size;
                case 4:
                    return horizon;
                default:
                    return lost.size;
            }
        }

        int nameAtMost(int name) {
            int best = NONE;
            for (int row = 0; row < messages.size; row++) {
                if (messages.cell(row, NAME) <= name) {
                    best = messages.cell(row, NAME);
                }
            }
            return best;
        }

        int nameChangedAfter(int given) {
            int best = NONE;
            for (int row = 0; row < messages.size; row++) {
                int its = messages.cell(row, MARK);
                // Only a smaller mark wins, so of equal ones the smallest name stays.
                if (its > given && (best == NONE || its < messages.cell(best, MARK))) {
                    best = row;
                }
            }
            return messages.cell(best, NAME);
        }

        long mixInto(long before) {
            long h = before;
            for (int what = 0; what <= 5; what++) {
                h = 31 * h + number(what);
            }
            return lost.mixInto(messages.mixInto(h));
        }

        void takeFrom(Box other) {
            era = other.era;
            nextName = other.nextName;
            mark = other.mark;
            horizon = other.horizon;
            messages.takeFrom(other.messages);
            lost.takeFrom(other.lost);
        }
    }

    /** The copy of one box that one machine has. */
    private static final class Copy {
        private int era = 0;
        private int mark = 0;
        private final Table messages = new Table(MESSAGE_WIDTH, COPY_ROOM, BOX_ROOM);

        int caseOfSync(Box box) {
            if (era != box.era) {
                return SYNC_ALL;
            }
            return mark >= box.horizon ? SYNC_BY_MARKS : SYNC_BY_COMPARING;
        }

        private boolean isDue(Box box, int row) {
            return era != box.era || box.messages.cell(row, MARK) > mark;
        }

        int messagesDue(Box box) {
            int count = 0;
            for (int row = 0; row < box.messages.size; row++) {
                if (isDue(box, row)) {
                    count++;
                }
            }
            return count;
        }

        int namesDue(Box box) {
            switch (caseOfSync(box)) {
                case SYNC_ALL:
                    return 0;
                case SYNC_BY_MARKS:
                    return lostSince(box);
                default:
                    return box.messages.size;
            }
        }

        private int lostSince(Box box) {
            int count = 0;
            for (int row = 0; row < box.lost.size; row++) {
                if (box.lost.cell(row, VANISHED_MARK) > mark) {
                    count++;
                }
            }
            return count;
        }

        void bringUpTo(Box box) {
            switch (caseOfSync(box)) {
                case SYNC_ALL:
                    messages.eraseAll();
                    break;
                case SYNC_BY_MARKS:
                    dropLost(box);
                    break;
                default:
                    dropAllThatBoxLacks(box);
                    break;
            }
            for (int row = 0; row < box.messages.size; row++) {
                if (isDue(box, row)) {
                    takeMessage(box, row);
                }
            }
            era = box.era;
            mark = box.mark;
        }

        private void takeMessage(Box box, int row) {
            Table source = box.messages;
            messages.storeMessage(source.cell(row, NAME), source.cell(row, CONTENT),
                    source.cell(row, FLAGS), source.cell(row, MARK));
        }

        void dropMessage(int name) {
            messages.erase(messages.rowWith(NAME, name));
        }

        private void dropLost(Box box) {
            for (int row = 0; row < box.lost.size; row++) {
                if (box.lost.cell(row, VANISHED_MARK) > mark) {
                    dropMessage(box.lost.cell(row, VANISHED_NAME));
                }
            }
        }

        private void dropAllThatBoxLacks(Box box) {
            for (int row = messages.size - 1; row >= 0; row--) {
                if (box.messages.rowWith(NAME, messages.cell(row, NAME)) == NONE) {
                    messages.erase(row);
                }
            }
        }

        void takeFrom(Copy other) {
            era = other.era;
            mark = other.mark;
            messages.takeFrom(other.messages);
        }
    }

    /** A machine with its copies and the deeds that are not done yet. */
    private static final class Machine {
        private int policy = MERGE;
        private final Copy[] copies = new Copy[BOXES];
        private final Table deeds = new Table(DEED_WIDTH, DEED_ROOM, DEED_ROOM);

        Machine() {
            for (int b = 0; b < BOXES; b++) {
                copies[b] = new Copy();
            }
        }

        int deedFor(int kind, int box, int name) {
            for (int row = 0; row < deeds.size; row++) {
                if (deeds.cell(row, DEED_KIND) == kind && deeds.cell(row, DEED_BOX) == box
                        && deeds.cell(row, DEED_NAME) == name) {
                    return row;
                }
            }
            return NONE;
        }

        boolean isForMessageOf(int row, int box) {
            return deeds.cell(row, DEED_BOX) == box && deeds.cell(row, DEED_KIND) != KIND_NEW;
        }

        boolean lacksMessageOf(int row, int box) {
            return copies[box].messages.rowWith(NAME, deeds.cell(row, DEED_NAME)) == NONE;
        }

        void addToFlagDeed(int row, int added, int taken) {
            deeds.put(row, DEED_ADDED, mixFlags(deeds.cell(row, DEED_ADDED), added, taken));
            deeds.put(row, DEED_TAKEN, mixFlags(deeds.cell(row, DEED_TAKEN), taken, added));
        }

        void fillView(int box, Table into) {
            into.eraseAll();
            Table messages = copies[box].messages;
            for (int row = 0; row < messages.size; row++) {
                int name = messages.cell(row, NAME);
                if (deedFor(KIND_REMOVAL, box, name) == NONE) {
                    int flags = flagsInView(box, name, messages.cell(row, FLAGS));
                    appendToView(into, name, messages.cell(row, CONTENT), flags);
                }
            }
            for (int row = 0; row < deeds.size; row++) {
                if (deeds.cell(row, DEED_BOX) == box && deeds.cell(row, DEED_KIND) == KIND_NEW) {
                    appendToView(into, -deeds.cell(row, DEED_NUMBER),
                            deeds.cell(row, DEED_CONTENT), deeds.cell(row, DEED_ADDED));
                }
            }
        }

        private int flagsInView(int box, int name, int flags) {
            int row = deedFor(KIND_FLAGS, box, name);
            if (row == NONE) {
                return flags;
            }
            return mixFlags(flags, deeds.cell(row, DEED_ADDED), deeds.cell(row, DEED_TAKEN));
        }

        private static void appendToView(Table into, int name, int content, int flags) {
            int row = into.size;
            if (into.open(row)) {
                into.put(row, NAME, name);
                into.put(row, CONTENT, content);
                into.put(row, FLAGS, flags);
            }
        }

        void takeFrom(Machine other) {
            policy = other.policy;
            for (int b = 0; b < BOXES; b++) {
                copies[b].takeFrom(other.copies[b]);
            }
            deeds.takeFrom(other.deeds);
        }
    }

    /** Everything that undo() brings back. */
    private static final class State {
        private final Box[] boxes = new Box[BOXES];
        private final Machine[] machines = new Machine[MACHINES];
        private final Table noted = new Table(NOTED_WIDTH, OUTCOME_ROOM, OUTCOME_ROOM);
        private final int[] counts = new int[COUNTS];
        private int nextDeed = 1;

        State() {
            for (int b = 0; b < BOXES; b++) {
                boxes[b] = new Box();
            }
            for (int m = 0; m < MACHINES; m++) {
                machines[m] = new Machine();
            }
        }

        int appendDeed(Machine planner, int kind, int box, int name) {
            Table deeds = planner.deeds;
            int row = deeds.size;
            if (!deeds.open(row)) {
                return NONE;
            }
            deeds.put(row, DEED_NUMBER, nextDeed);
            deeds.put(row, DEED_KIND, kind);
            deeds.put(row, DEED_BOX, box);
            deeds.put(row, DEED_NAME, name);
            deeds.put(row, DEED_CONTENT, NONE);
            nextDeed++;
            return row;
        }

        private void note(int deed, int outcome, int name) {
            if (noted.size >= OUTCOME_ROOM) {
                noted.erase(0);
            }
            int row = noted.size;
            if (noted.open(row)) {
                noted.put(row, NOTED_DEED, deed);
                noted.put(row, NOTED_OUTCOME, outcome);
                noted.put(row, NOTED_NAME, name);
            }
            if (outcome == MERGED) {
                counts[TOLD_MERGED]++;
            } else if (outcome > MERGED) {
                counts[TOLD_FAILED]++;
            }
        }

        /** Returns how many messages and names were sent. */
        int syncBox(Machine machine, int box) {
            Copy copy = machine.copies[box];
            int way = copy.caseOfSync(boxes[box]);
            int messages = copy.messagesDue(boxes[box]);
            int names = copy.namesDue(boxes[box]);
            copy.bringUpTo(boxes[box]);
            if (way == SYNC_ALL) {
                dropDeedsOfOldEra(machine, box);
            }
            dropDeedsForLost(machine, box);
            counts[TOLD_MESSAGES] += messages;
            counts[TOLD_NAMES] += names;
            counts[TOLD_BEFORE_CASES + way]++;
            return messages + names;
        }

        private void dropDeedsOfOldEra(Machine machine, int box) {
            int row = 0;
            for (int left = machine.deeds.size; left > 0; left--) {
                if (machine.isForMessageOf(row, box)) {
                    dropDeed(machine, row, OTHER_ERA);
                } else {
                    row++;
                }
            }
        }

        private void dropDeedsForLost(Machine machine, int box) {
            int row = 0;
            for (int left = machine.deeds.size; left > 0; left--) {
                if (machine.isForMessageOf(row, box) && machine.lacksMessageOf(row, box)) {
                    dropDeed(machine, row, GONE);
                } else {
                    row++;
                }
            }
        }

        private void dropDeed(Machine machine, int row, int outcome) {
            note(machine.deeds.cell(row, DEED_NUMBER), outcome, NONE);
            machine.deeds.erase(row);
        }

        /** Returns how many of the deeds had the outcome 0 or 1. */
        int playDeeds(Machine machine) {
            int done = 0;
            for (int row = 0; row < machine.deeds.size; row++) {
                if (playDeed(machine, row) <= MERGED) {
                    done++;
                }
            }
            machine.deeds.eraseAll();
            return done;
        }

        private int playDeed(Machine machine, int row) {
            int b = machine.deeds.cell(row, DEED_BOX);
            if (b < 0 || b >= BOXES) {
                return GONE;
            }
            Box box = boxes[b];
            Copy copy = machine.copies[b];
            boolean wasLevel = copy.era == box.era && copy.mark == box.mark;
            boolean isNew = machine.deeds.cell(row, DEED_KIND) == KIND_NEW;
            int nameToBe = box.nextName;
            int outcome = isNew ? playNew(machine.deeds, row, box, copy)
                    : playOnMessage(machine, row, box, copy);
            if (wasLevel) {
                copy.mark = box.mark;
            }
            boolean wasAdded = isNew && outcome == DONE;
            note(machine.deeds.cell(row, DEED_NUMBER), outcome, wasAdded ? nameToBe : NONE);
            return outcome;
        }

        private static int playNew(Table deeds, int row, Box box, Copy copy) {
            if (box.isFull()) {
                return NO_ROOM;
            }
            int content = deeds.cell(row, DEED_CONTENT);
            int flags = deeds.cell(row, DEED_ADDED);
            int name = box.addMessage(content, flags);
            if (copy.era == box.era) {
                copy.messages.storeMessage(name, content, flags, box.mark);
            }
            return DONE;
        }

        private static int playOnMessage(Machine machine, int row, Box box, Copy copy) {
            if (copy.era != box.era) {
                return OTHER_ERA;
            }
            int name = machine.deeds.cell(row, DEED_NAME);
            int place = box.messages.rowWith(NAME, name);
            if (place == NONE) {
                copy.dropMessage(name);
                return GONE;
            }
            int copyPlace = copy.messages.rowWith(NAME, name);
            boolean wasTouched = box.messages.cell(place, MARK) > copy.messages.cell(copyPlace, MARK);
            if (wasTouched && machine.policy == YIELD) {
                return REFUSED;
            }
            if (machine.deeds.cell(row, DEED_KIND) == KIND_REMOVAL) {
                box.removeMessage(place);
                copy.dropMessage(name);
            } else {
                box.changeFlags(place, mixFlags(box.messages.cell(place, FLAGS),
                        machine.deeds.cell(row, DEED_ADDED), machine.deeds.cell(row, DEED_TAKEN)));
                copy.messages.put(copyPlace, FLAGS, box.messages.cell(place, FLAGS));
                copy.messages.put(copyPlace, MARK, box.messages.cell(place, MARK));
            }
            return wasTouched ? MERGED : DONE;
        }

        void takeFrom(State other) {
            for (int b = 0; b < BOXES; b++) {
                boxes[b].takeFrom(other.boxes[b]);
            }
            for (int m = 0; m < MACHINES; m++) {
                machines[m].takeFrom(other.machines[m]);
            }
            noted.takeFrom(other.noted);
            System.arraycopy(other.counts, 0, counts, 0, COUNTS);
            nextDeed = other.nextDeed;
        }
    }
}
