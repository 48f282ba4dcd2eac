import java.util.Random;

/**
 * Long runs of calls drawn by a fixed seed, answered by MailSync and by SlowModel: every answer,
 * every exception and the checksum after every call must be the same.
 */
final class ModelTest {
    private static final int CALLS = 512;
    private static final int[] ODD = {Integer.MIN_VALUE, -64, -2, -1, 64, 1000, Integer.MAX_VALUE};

    private final Random random;
    private final int style;
    private final MailSync sync = new MailSync();
    private final SlowModel model = new SlowModel();

    private ModelTest(long seed, int style) {
        this.random = new Random(seed);
        this.style = style;
    }

    private int pick(int bound) {
        return random.nextInt(40) == 0 ? ODD[random.nextInt(ODD.length)] : random.nextInt(bound);
    }

    // A run that keeps to few boxes and machines goes deeper in those.
    private int box() {
        return random.nextInt(60) == 0 ? pick(5) - 1 : random.nextInt(style % 2 == 0 ? 3 : 1);
    }

    private int machine() {
        return random.nextInt(60) == 0 ? pick(6) - 1 : random.nextInt(style % 3 == 0 ? 4 : 2);
    }

    private int content() {
        return pick(random.nextInt(8) == 0 ? 1001 : 4);
    }

    private int flags() {
        return pick(random.nextInt(20) == 0 ? 65 : 64);
    }

    private int name(int box) {
        int in = box < 0 || box > 2 ? 0 : box;
        int count = model.box(in, 3);
        if (count > 0 && random.nextInt(10) != 0) {
            return model.message(in, random.nextInt(count), 0);
        }
        return pick(30);
    }

    private int nameInCopy(int machine, int box) {
        int of = machine < 0 || machine > 3 ? 0 : machine;
        int in = box < 0 || box > 2 ? 0 : box;
        int count = model.copyOf(of, in, 2);
        if (count > 0 && random.nextInt(10) != 0) {
            return model.copied(of, in, random.nextInt(count), 0);
        }
        return pick(30);
    }

    private int deedOf(int machine) {
        int known = machine < 0 || machine > 3 ? NONE_KNOWN : model.deed(machine, random.nextInt(8), 0);
        return known == NONE_KNOWN || random.nextInt(10) == 0 ? pick(200) : known;
    }

    private static final int NONE_KNOWN = -1;

    private int notedDeed() {
        return random.nextInt(5) == 0 ? pick(200) : model.noted(random.nextInt(10));
    }

    private void both(String call, Check.Call real, Check.Call slow) {
        Check.told(call, Check.tell(real), Check.tell(slow));
    }

    private void step() {
        int dice = random.nextInt(100);
        if (dice < 36) {
            changeServer();
        } else if (dice < 60) {
            changeMachine();
        } else if (dice < 64) {
            both("undo()", sync::undo, model::undo);
        } else if (dice < 80) {
            askServer();
        } else {
            askMachine();
        }
        Check.same("checksum()", sync.checksum(), model.checksum());
    }

    private void changeServer() {
        int b = box();
        int n = name(b);
        int c = content();
        int f = flags();
        int h = pick(3);
        int s = random.nextInt(2) == 0 ? -1 : pick(60);
        int to = box();
        int dice = random.nextInt(style % 5 == 4 ? 60 : 40);
        if (dice < 16 || dice >= 40) {
            both("add(" + b + ", " + c + ", " + f + ")", () -> sync.add(b, c, f), () -> model.add(b, c, f));
        } else if (dice < 26) {
            both("change(" + b + ", " + n + ", " + h + ", " + f + ", " + s + ")",
                    () -> sync.change(b, n, h, f, s), () -> model.change(b, n, h, f, s));
        } else if (dice < 34) {
            both("remove(" + b + ", " + n + ")", () -> sync.remove(b, n), () -> model.remove(b, n));
        } else if (dice < 36) {
            both("clean(" + b + ")", () -> sync.clean(b), () -> model.clean(b));
        } else if (dice < 39) {
            both("copy(" + b + ", " + n + ", " + to + ")", () -> sync.copy(b, n, to), () -> model.copy(b, n, to));
        } else {
            both("renew(" + b + ")", () -> sync.renew(b), () -> model.renew(b));
        }
    }

    private void changeMachine() {
        int m = machine();
        int b = box();
        int n = nameInCopy(m, b);
        int h = pick(3);
        int f = flags();
        int c = content();
        int d = deedOf(m);
        int p = random.nextInt(20) == 0 ? pick(3) : random.nextInt(2);
        int dice = random.nextInt(40);
        if (dice < 8) {
            both("sync(" + m + ", " + b + ")", () -> sync.sync(m, b), () -> model.sync(m, b));
        } else if (dice < 18) {
            both("plan(" + m + ", " + b + ", " + n + ", " + h + ", " + f + ")",
                    () -> sync.plan(m, b, n, h, f), () -> model.plan(m, b, n, h, f));
        } else if (dice < 24) {
            both("planNew(" + m + ", " + b + ", " + c + ", " + f + ")",
                    () -> sync.planNew(m, b, c, f), () -> model.planNew(m, b, c, f));
        } else if (dice < 29) {
            both("planRemoval(" + m + ", " + b + ", " + n + ")",
                    () -> sync.planRemoval(m, b, n), () -> model.planRemoval(m, b, n));
        } else if (dice < 32) {
            both("takeBack(" + m + ", " + d + ")", () -> sync.takeBack(m, d), () -> model.takeBack(m, d));
        } else if (dice < 36) {
            both("playBack(" + m + ")", () -> sync.playBack(m), () -> model.playBack(m));
        } else if (dice < 39) {
            both("setPolicy(" + m + ", " + p + ")", () -> sync.setPolicy(m, p), () -> model.setPolicy(m, p));
        } else {
            both("settle()", sync::settle, model::settle);
        }
    }

    private void askServer() {
        int b = box();
        int k = pick(22);
        int w = pick(8);
        int n = random.nextInt(2) == 0 ? pick(40) : name(b);
        boolean mark = random.nextBoolean();
        switch (random.nextInt(5)) {
            case 0 -> both("box(" + b + ", " + w + ")", () -> sync.box(b, w), () -> model.box(b, w));
            case 1 -> both("message(" + b + ", " + k + ", " + w + ")",
                    () -> sync.message(b, k, w), () -> model.message(b, k, w));
            case 2 -> both("vanished(" + b + ", " + k + ", " + mark + ")",
                    () -> sync.vanished(b, k, mark), () -> model.vanished(b, k, mark));
            case 3 -> both("atMost(" + b + ", " + n + ")", () -> sync.atMost(b, n), () -> model.atMost(b, n));
            default -> both("changedAfter(" + b + ", " + n + ")",
                    () -> sync.changedAfter(b, n), () -> model.changedAfter(b, n));
        }
    }

    private void askMachine() {
        int m = machine();
        int o = machine();
        int b = box();
        int k = pick(22);
        int w = pick(8);
        int d = notedDeed();
        switch (random.nextInt(11)) {
            case 0 -> both("syncCost(" + m + ", " + b + ")", () -> sync.syncCost(m, b), () -> model.syncCost(m, b));
            case 1 -> both("copyOf(" + m + ", " + b + ", " + w + ")",
                    () -> sync.copyOf(m, b, w), () -> model.copyOf(m, b, w));
            case 2 -> both("copied(" + m + ", " + b + ", " + k + ", " + w + ")",
                    () -> sync.copied(m, b, k, w), () -> model.copied(m, b, k, w));
            case 3 -> both("view(" + m + ", " + b + ", " + k + ", " + w + ")",
                    () -> sync.view(m, b, k, w), () -> model.view(m, b, k, w));
            case 4 -> both("different(" + m + ", " + b + ")", () -> sync.different(m, b), () -> model.different(m, b));
            case 5 -> both("areAlike(" + m + ", " + o + ", " + b + ")",
                    () -> sync.areAlike(m, o, b) ? 1 : 0, () -> model.areAlike(m, o, b) ? 1 : 0);
            case 6 -> both("deed(" + m + ", " + k + ", " + w + ")", () -> sync.deed(m, k, w), () -> model.deed(m, k, w));
            case 7 -> both("outcome(" + d + ")", () -> sync.outcome(d), () -> model.outcome(d));
            case 8 -> both("nameOf(" + d + ")", () -> sync.nameOf(d), () -> model.nameOf(d));
            case 9 -> both("noted(" + k + ")", () -> sync.noted(k), () -> model.noted(k));
            default -> both("told(" + w + ")", () -> sync.told(w), () -> model.told(w));
        }
    }

    private static void lookAtAll(ModelTest test) {
        for (int m = 0; m < 4; m++) {
            for (int b = 0; b < 3; b++) {
                int machine = m;
                int box = b;
                test.both("different", () -> test.sync.different(machine, box), () -> test.model.different(machine, box));
                test.both("syncCost", () -> test.sync.syncCost(machine, box), () -> test.model.syncCost(machine, box));
                for (int k = -1; k < 30; k++) {
                    for (int w = 0; w < 3; w++) {
                        int place = k;
                        int what = w;
                        test.both("view", () -> test.sync.view(machine, box, place, what),
                                () -> test.model.view(machine, box, place, what));
                    }
                }
            }
        }
    }

    public static void main(String[] args) {
        int runs = args.length > 0 ? Integer.parseInt(args[0]) : 150;
        for (int run = 0; run < runs && Check.wrongOnes() == 0; run++) {
            ModelTest test = new ModelTest(run, run);
            for (int call = 0; call < CALLS && Check.wrongOnes() == 0; call++) {
                test.step();
                if (call % 64 == 63) {
                    lookAtAll(test);
                }
            }
            if (Check.wrongOnes() != 0) {
                System.out.println("in the run with seed " + run);
            }
        }
        Check.end();
    }
}
