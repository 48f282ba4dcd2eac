import java.util.ArrayList;
import java.util.HashSet;
import java.util.LinkedHashMap;
import java.util.List;
import java.util.Map;
import java.util.Set;
import java.util.TreeMap;

/**
 * The document once more, written with the Java library and without a thought for room or speed:
 * ModelTest lets it answer the same calls as MailSync. It shares no code with MailSync.
 */
final class SlowModel {
    private static final int NONE = -1;

    private record Message(int name, int content, int flags, int mark) {
        int property(int what) {
            return List.of(name, content, flags, mark).get(what);
        }
    }

    private record Lost(int name, int mark) {
    }

    private record Deed(int number, int kind, int box, int name, int added, int taken, int content) {
        int property(int what) {
            return List.of(number, kind, box, name, added, taken, content).get(what);
        }

        boolean isFor(int itsKind, int itsBox, int itsName) {
            return kind == itsKind && box == itsBox && name == itsName;
        }
    }

    private record Noted(int deed, int outcome, int name) {
    }

    private static final class Server {
        int era = 1;
        int next = 1;
        int mark = 0;
        int horizon = 0;
        TreeMap<Integer, Message> messages = new TreeMap<>();
        List<Lost> lost = new ArrayList<>();

        Server twin() {
            Server t = new Server();
            t.era = era;
            t.next = next;
            t.mark = mark;
            t.horizon = horizon;
            t.messages = new TreeMap<>(messages);
            t.lost = new ArrayList<>(lost);
            return t;
        }

        Message put(int content, int flags) {
            mark += 1;
            Message m = new Message(next, content, flags, mark);
            messages.put(next, m);
            next += 1;
            return m;
        }

        void flag(int name, int flags) {
            Message m = messages.get(name);
            if (m.flags == flags) {
                return;
            }
            mark += 1;
            messages.put(name, new Message(name, m.content, flags, mark));
        }

        void drop(int name) {
            mark += 1;
            messages.remove(name);
            lost.add(new Lost(name, mark));
            while (lost.size() > 6) {
                horizon = lost.remove(0).mark;
            }
        }
    }

    private static final class Copy {
        int era = 0;
        int mark = 0;
        TreeMap<Integer, Message> messages = new TreeMap<>();

        Copy twin() {
            Copy t = new Copy();
            t.era = era;
            t.mark = mark;
            t.messages = new TreeMap<>(messages);
            return t;
        }
    }

    private static final class Machine {
        int policy = 0;
        List<Copy> copies = new ArrayList<>();
        List<Deed> deeds = new ArrayList<>();

        Machine twin() {
            Machine t = new Machine();
            t.policy = policy;
            for (Copy c : copies) {
                t.copies.add(c.twin());
            }
            t.deeds = new ArrayList<>(deeds);
            return t;
        }
    }

    private static final class World {
        List<Server> boxes = new ArrayList<>();
        List<Machine> machines = new ArrayList<>();
        List<Noted> noted = new ArrayList<>();
        int[] told = new int[7];
        int deeds = 0;

        World twin() {
            World t = new World();
            for (Server b : boxes) {
                t.boxes.add(b.twin());
            }
            for (Machine m : machines) {
                t.machines.add(m.twin());
            }
            t.noted = new ArrayList<>(noted);
            t.told = told.clone();
            t.deeds = deeds;
            return t;
        }
    }

    private World world = new World();
    private final List<World> records = new ArrayList<>();

    SlowModel() {
        for (int b = 0; b < 3; b++) {
            world.boxes.add(new Server());
        }
        for (int m = 0; m < 4; m++) {
            Machine machine = new Machine();
            for (int b = 0; b < 3; b++) {
                machine.copies.add(new Copy());
            }
            world.machines.add(machine);
        }
    }

    private void index(boolean good) {
        if (!good) {
            throw new IndexOutOfBoundsException();
        }
    }

    private void argument(boolean good) {
        if (!good) {
            throw new IllegalArgumentException();
        }
    }

    private void state(boolean good) {
        if (!good) {
            throw new IllegalStateException();
        }
    }

    private void boxIndex(int box) {
        index(box >= 0 && box <= 2);
    }

    private void both(int machine, int box) {
        index(machine >= 0 && machine <= 3 && box >= 0 && box <= 2);
    }

    private boolean within(int v, int greatest) {
        return v >= 0 && v <= greatest;
    }

    private void record() {
        records.add(world.twin());
        if (records.size() == 5) {
            records.remove(0);
        }
    }

    private static <T> T at(List<T> list, int k) {
        return k >= 0 && k < list.size() ? list.get(k) : null;
    }

    int add(int box, int content, int flags) {
        boxIndex(box);
        argument(within(content, 999) && within(flags, 63));
        state(world.boxes.get(box).messages.size() < 20);
        record();
        return world.boxes.get(box).put(content, flags).name;
    }

    int change(int box, int name, int how, int flags, int since) {
        boxIndex(box);
        Server server = world.boxes.get(box);
        Message m = server.messages.get(name);
        index(m != null);
        argument(within(how, 2) && within(flags, 63) && since >= -1);
        state(since == NONE || m.mark <= since);
        record();
        int then = flags;
        if (how == 1) {
            then = m.flags | flags;
        }
        if (how == 2) {
            then = m.flags - (m.flags & flags);
        }
        server.flag(name, then);
        return then;
    }

    int remove(int box, int name) {
        boxIndex(box);
        Server server = world.boxes.get(box);
        index(server.messages.containsKey(name));
        state(server.messages.get(name).flags % 2 == 1);
        record();
        server.drop(name);
        return server.messages.size();
    }

    int clean(int box) {
        boxIndex(box);
        record();
        Server server = world.boxes.get(box);
        int count = 0;
        for (Message m : new ArrayList<>(server.messages.values())) {
            if (m.flags % 2 == 1) {
                server.drop(m.name);
                count += 1;
            }
        }
        return count;
    }

    int copy(int box, int name, int to) {
        boxIndex(box);
        boxIndex(to);
        Message m = world.boxes.get(box).messages.get(name);
        index(m != null);
        state(world.boxes.get(to).messages.size() < 20);
        record();
        return world.boxes.get(to).put(m.content, m.flags).name;
    }

    int renew(int box) {
        boxIndex(box);
        record();
        Server server = world.boxes.get(box);
        server.era += 1;
        server.mark += 1;
        TreeMap<Integer, Message> renewed = new TreeMap<>();
        for (Message m : server.messages.values()) {
            int name = renewed.size() + 1;
            renewed.put(name, new Message(name, m.content, m.flags, server.mark));
        }
        server.messages = renewed;
        server.next = renewed.size() + 1;
        server.lost.clear();
        server.horizon = server.mark;
        return server.era;
    }

    int box(int box, int what) {
        boxIndex(box);
        argument(within(what, 5));
        Server s = world.boxes.get(box);
        return List.of(s.era, s.next, s.mark, s.messages.size(), s.horizon, s.lost.size()).get(what);
    }

    int message(int box, int k, int what) {
        boxIndex(box);
        argument(within(what, 3));
        Message m = at(new ArrayList<>(world.boxes.get(box).messages.values()), k);
        return m == null ? NONE : m.property(what);
    }

    int vanished(int box, int k, boolean mark) {
        boxIndex(box);
        Lost l = at(world.boxes.get(box).lost, k);
        if (l == null) {
            return NONE;
        }
        return mark ? l.mark : l.name;
    }

    int atMost(int box, int name) {
        boxIndex(box);
        Integer found = world.boxes.get(box).messages.floorKey(name);
        return found == null ? NONE : found;
    }

    int changedAfter(int box, int mark) {
        boxIndex(box);
        TreeMap<Integer, Integer> smallestNames = new TreeMap<>();
        for (Message m : world.boxes.get(box).messages.values()) {
            smallestNames.merge(m.mark, m.name, Math::min);
        }
        Map.Entry<Integer, Integer> found = smallestNames.higherEntry(mark);
        return found == null ? NONE : found.getValue();
    }

    int setPolicy(int machine, int policy) {
        both(machine, 0);
        argument(within(policy, 1));
        record();
        int previous = world.machines.get(machine).policy;
        world.machines.get(machine).policy = policy;
        return previous;
    }

    private void note(int deed, int outcome, int name) {
        world.noted.add(new Noted(deed, outcome, name));
        if (world.noted.size() == 11) {
            world.noted.remove(0);
        }
        if (outcome >= 1) {
            world.told[outcome == 1 ? 5 : 6] += 1;
        }
    }

    private int doSync(int machine, int box) {
        Machine m = world.machines.get(machine);
        Copy c = m.copies.get(box);
        Server s = world.boxes.get(box);
        List<Message> messages = new ArrayList<>();
        List<Integer> names = new ArrayList<>();
        if (c.era != s.era) {
            world.told[2] += 1;
            c.messages.clear();
            for (Deed d : new ArrayList<>(m.deeds)) {
                if (d.box == box && d.kind != 1) {
                    m.deeds.remove(d);
                    note(d.number, 3, NONE);
                }
            }
            messages.addAll(s.messages.values());
        } else {
            for (Message one : s.messages.values()) {
                if (one.mark > c.mark) {
                    messages.add(one);
                }
            }
            if (c.mark >= s.horizon) {
                world.told[3] += 1;
                for (Lost l : s.lost) {
                    if (l.mark > c.mark) {
                        names.add(l.name);
                    }
                }
                names.forEach(c.messages::remove);
            } else {
                world.told[4] += 1;
                names.addAll(s.messages.keySet());
                c.messages.keySet().retainAll(names);
            }
        }
        for (Message one : messages) {
            c.messages.put(one.name, one);
        }
        c.era = s.era;
        c.mark = s.mark;
        for (Deed d : new ArrayList<>(m.deeds)) {
            if (d.box == box && d.kind != 1 && !c.messages.containsKey(d.name)) {
                m.deeds.remove(d);
                note(d.number, 2, NONE);
            }
        }
        world.told[0] += messages.size();
        world.told[1] += names.size();
        return messages.size() + names.size();
    }

    int sync(int machine, int box) {
        both(machine, box);
        record();
        return doSync(machine, box);
    }

    int syncCost(int machine, int box) {
        both(machine, box);
        World kept = world;
        world = kept.twin();
        int cost = doSync(machine, box);
        world = kept;
        return cost;
    }

    private Map<Integer, List<Integer>> viewOf(int machine, int box) {
        Machine m = world.machines.get(machine);
        Map<Integer, List<Integer>> view = new LinkedHashMap<>();
        for (Message one : m.copies.get(box).messages.values()) {
            view.put(one.name, List.of(one.name, one.content, one.flags));
        }
        for (Deed d : m.deeds) {
            if (d.box != box) {
                continue;
            }
            if (d.kind == 2) {
                view.remove(d.name);
            } else if (d.kind == 1) {
                view.put(-d.number, List.of(-d.number, d.content, d.added));
            } else if (view.containsKey(d.name)) {
                List<Integer> old = view.get(d.name);
                view.put(d.name, List.of(d.name, old.get(1), old.get(2) & ~d.taken | d.added));
            }
        }
        return view;
    }

    int copyOf(int machine, int box, int what) {
        both(machine, box);
        argument(within(what, 3));
        Copy c = world.machines.get(machine).copies.get(box);
        return List.of(c.era, c.mark, c.messages.size(), viewOf(machine, box).size()).get(what);
    }

    int copied(int machine, int box, int k, int what) {
        both(machine, box);
        argument(within(what, 3));
        Copy c = world.machines.get(machine).copies.get(box);
        Message m = at(new ArrayList<>(c.messages.values()), k);
        return m == null ? NONE : m.property(what);
    }

    int view(int machine, int box, int k, int what) {
        both(machine, box);
        argument(within(what, 2));
        List<Integer> m = at(new ArrayList<>(viewOf(machine, box).values()), k);
        return m == null ? NONE : m.get(what);
    }

    int different(int machine, int box) {
        both(machine, box);
        Map<Integer, List<Integer>> seen = viewOf(machine, box);
        Map<Integer, List<Integer>> real = new LinkedHashMap<>();
        for (Message one : world.boxes.get(box).messages.values()) {
            real.put(one.name, List.of(one.name, one.content, one.flags));
        }
        Set<Integer> names = new HashSet<>(seen.keySet());
        names.addAll(real.keySet());
        names.removeIf(name -> seen.containsKey(name) && seen.get(name).equals(real.get(name)));
        return names.size();
    }

    boolean areAlike(int one, int other, int box) {
        both(one, box);
        both(other, box);
        return viewOf(one, box).equals(viewOf(other, box));
    }

    int plan(int machine, int box, int name, int how, int flags) {
        both(machine, box);
        argument(within(how, 2) && within(flags, 63));
        Machine m = world.machines.get(machine);
        state(m.copies.get(box).messages.containsKey(name));
        Deed old = null;
        for (Deed d : m.deeds) {
            state(!d.isFor(2, box, name));
            if (d.isFor(0, box, name)) {
                old = d;
            }
        }
        state(old != null || m.deeds.size() < 8);
        record();
        int added = old == null ? 0 : old.added;
        int taken = old == null ? 0 : old.taken;
        for (int flag = 0; flag < 6; flag++) {
            int bit = 1 << flag;
            boolean given = (flags & bit) != 0;
            if (given && how != 2) {
                added |= bit;
                taken &= ~bit;
            } else if (given || how == 0) {
                taken |= bit;
                added &= ~bit;
            }
        }
        if (old != null) {
            m.deeds.set(m.deeds.indexOf(old), new Deed(old.number, 0, box, name, added, taken, NONE));
            return old.number;
        }
        world.deeds += 1;
        m.deeds.add(new Deed(world.deeds, 0, box, name, added, taken, NONE));
        return world.deeds;
    }

    int planNew(int machine, int box, int content, int flags) {
        both(machine, box);
        argument(within(content, 999) && within(flags, 63));
        Machine m = world.machines.get(machine);
        state(m.deeds.size() < 8);
        record();
        world.deeds += 1;
        m.deeds.add(new Deed(world.deeds, 1, box, NONE, flags, 0, content));
        return world.deeds;
    }

    int planRemoval(int machine, int box, int name) {
        both(machine, box);
        Machine m = world.machines.get(machine);
        state(m.copies.get(box).messages.containsKey(name));
        state(m.deeds.stream().noneMatch(d -> d.isFor(2, box, name)) && m.deeds.size() < 8);
        record();
        world.deeds += 1;
        m.deeds.add(new Deed(world.deeds, 2, box, name, 0, 0, NONE));
        return world.deeds;
    }

    int takeBack(int machine, int deed) {
        both(machine, 0);
        state(world.machines.get(machine).deeds.stream().anyMatch(d -> d.number == deed));
        record();
        world.machines.get(machine).deeds.removeIf(d -> d.number == deed);
        return world.machines.get(machine).deeds.size();
    }

    int deed(int machine, int k, int what) {
        both(machine, 0);
        argument(within(what, 6));
        Deed d = at(world.machines.get(machine).deeds, k);
        return d == null ? NONE : d.property(what);
    }

    private int doPlay(int machine) {
        Machine m = world.machines.get(machine);
        int good = 0;
        for (Deed d : m.deeds) {
            Server s = world.boxes.get(d.box);
            Copy c = m.copies.get(d.box);
            boolean sameEra = c.era == s.era;
            boolean sameMark = c.mark == s.mark;
            int outcome = 0;
            int name = NONE;
            if (d.kind == 1) {
                if (s.messages.size() == 20) {
                    outcome = 5;
                } else {
                    Message added = s.put(d.content, d.added);
                    name = added.name;
                    if (sameEra) {
                        c.messages.put(name, added);
                    }
                }
            } else if (!sameEra) {
                outcome = 3;
            } else if (!s.messages.containsKey(d.name)) {
                outcome = 2;
                c.messages.remove(d.name);
            } else {
                Message real = s.messages.get(d.name);
                boolean touched = real.mark > c.messages.get(d.name).mark;
                if (touched && m.policy == 1) {
                    outcome = 4;
                } else {
                    outcome = touched ? 1 : 0;
                    if (d.kind == 0) {
                        s.flag(d.name, real.flags & ~d.taken | d.added);
                        c.messages.put(d.name, s.messages.get(d.name));
                    } else {
                        s.drop(d.name);
                        c.messages.remove(d.name);
                    }
                }
            }
            if (sameEra && sameMark) {
                c.mark = s.mark;
            }
            note(d.number, outcome, name);
            good += outcome < 2 ? 1 : 0;
        }
        m.deeds.clear();
        return good;
    }

    int playBack(int machine) {
        both(machine, 0);
        record();
        return doPlay(machine);
    }

    private Noted notedOf(int deed) {
        for (Noted n : world.noted) {
            if (n.deed == deed) {
                return n;
            }
        }
        return new Noted(deed, NONE, NONE);
    }

    int outcome(int deed) {
        return notedOf(deed).outcome;
    }

    int nameOf(int deed) {
        return notedOf(deed).name;
    }

    int noted(int k) {
        Noted n = at(world.noted, k);
        return n == null ? NONE : n.deed;
    }

    int settle() {
        record();
        for (int m = 0; m < 4; m++) {
            doPlay(m);
        }
        int sent = 0;
        for (int m = 0; m < 4; m++) {
            for (int b = 0; b < 3; b++) {
                sent += doSync(m, b);
            }
        }
        return sent;
    }

    int told(int what) {
        argument(within(what, 6));
        return world.told[what];
    }

    int undo() {
        state(!records.isEmpty());
        world = records.remove(records.size() - 1);
        return records.size();
    }

    long checksum() {
        List<Integer> all = new ArrayList<>();
        for (int b = 0; b < 3; b++) {
            for (int what = 0; what < 6; what++) {
                all.add(box(b, what));
            }
            for (Message m : world.boxes.get(b).messages.values()) {
                all.addAll(List.of(m.name, m.content, m.flags, m.mark));
            }
            for (Lost l : world.boxes.get(b).lost) {
                all.addAll(List.of(l.name, l.mark));
            }
        }
        for (int m = 0; m < 4; m++) {
            all.add(world.machines.get(m).policy);
            for (int b = 0; b < 3; b++) {
                for (int what = 0; what < 4; what++) {
                    all.add(copyOf(m, b, what));
                }
                for (Message one : world.machines.get(m).copies.get(b).messages.values()) {
                    all.addAll(List.of(one.name, one.content, one.flags, one.mark));
                }
            }
            for (Deed d : world.machines.get(m).deeds) {
                for (int what = 0; what < 7; what++) {
                    all.add(d.property(what));
                }
            }
        }
        for (Noted n : world.noted) {
            all.addAll(List.of(n.deed, n.outcome));
        }
        for (int count : world.told) {
            all.add(count);
        }
        all.add(records.size());
        long h = 12861;
        for (int v : all) {
            h = 31 * h + v;
        }
        return h;
    }
}
