import java.util.Random;

/** All promises: long runs of mixed calls, each answer compared with that of PlainHub. */
public final class LongRunsTest {
    private static final int RUNS = 600;
    private static final int CALLS = 512;
    private static final int[] ODD = {Integer.MIN_VALUE, -3, -2, -1, 3, 6, 16, 17, 200, 1001, Integer.MAX_VALUE};

    private final Random random;
    private final ShopHub hub = new ShopHub();
    private final PlainHub plain = new PlainHub();
    private final boolean manyDrafts;
    private final int days;
    private int goods = 0;
    private int drafts = 0;

    private LongRunsTest(int run) {
        random = new Random(run);
        manyDrafts = run % 2 == 0;
        days = run % 3 == 0 ? 2 : run % 3 == 1 ? 12 : 1000;
    }

    public static void main(String[] args) {
        for (int run = 0; run < RUNS; run++) {
            LongRunsTest test = new LongRunsTest(run);
            for (int call = 0; call < CALLS; call++) {
                Check.promise("run " + run + ", call " + call);
                test.step();
            }
        }
        Check.end();
    }

    private void step() {
        int kind = random.nextInt(30);
        if (kind < 8) {
            goodsStep(kind);
        } else if (kind < 18) {
            draftsStep(kind);
        } else {
            valuesStep(kind);
        }
    }

    private void goodsStep(int kind) {
        int g = good();
        int other = good();
        int n = number(0, 22);
        int discount = number(0, 100);
        int parent = random.nextInt(3) == 0 ? -1 : other;
        switch (kind) {
            case 0, 1, 2 -> {
                String answer = compare("addGood " + parent, () -> hub.addGood(parent), () -> plain.addGood(parent));
                goods += answer.startsWith("throws") ? 0 : 1;
            }
            case 3 -> compare("move " + g + " " + parent, () -> hub.move(g, parent), () -> plain.move(g, parent));
            case 4 -> {
                if (random.nextInt(4) == 0) {
                    compare("delete " + g, () -> run(() -> hub.delete(g)), () -> run(() -> plain.delete(g)));
                }
            }
            case 5, 6 -> compare("addPart " + g + " " + other + " " + n,
                    () -> hub.addPart(g, other, n), () -> plain.addPart(g, other, n));
            default -> compare("setDiscount " + g + " " + discount,
                    () -> hub.setDiscount(g, discount), () -> plain.setDiscount(g, discount));
        }
    }

    private void draftsStep(int kind) {
        int d = number(Math.max(0, drafts - 12), drafts - 1);
        int n = number(1, days > 100 ? 100 : 2);
        if (kind < (manyDrafts ? 14 : 12)) {
            enterDraft();
        } else if (kind < 16) {
            compare("approve " + d, () -> hub.approve(d), () -> plain.approve(d));
        } else if (kind == 16) {
            compare("reject " + d, () -> hub.reject(d), () -> plain.reject(d));
        } else {
            compare("pass " + n, () -> hub.pass(n), () -> plain.pass(n));
        }
    }

    private void enterDraft() {
        int g = good();
        int a = random.nextBoolean() ? 0 : number(0, 5);
        int s = number(-1, 2);
        int t = number(-1, 2);
        int v = random.nextInt(4) == 0 ? -1 : random.nextInt(3) == 0 ? number(90000, 100000) : number(0, 2);
        int day = number(0, days);
        String answer = compare("draft " + g + " " + a + " " + s + " " + t + " " + v + " " + day,
                () -> hub.draft(g, a, s, t, v, day), () -> plain.draft(g, a, s, t, v, day));
        if (!answer.startsWith("throws")) {
            int entered = drafts++;
            if (random.nextBoolean()) {
                compare("approve " + entered, () -> hub.approve(entered), () -> plain.approve(entered));
            }
        }
    }

    private void valuesStep(int kind) {
        int g = good();
        int a = random.nextBoolean() ? 0 : number(0, 5);
        int s = number(0, 2);
        int t = number(0, 2);
        String sight = g + " " + a + " " + s + " " + t;
        switch (kind) {
            case 18, 19 -> compare("value " + sight, () -> hub.value(g, a, s, t), () -> plain.value(g, a, s, t));
            case 20 -> compare("origin " + sight, () -> hub.origin(g, a, s, t), () -> plain.origin(g, a, s, t));
            case 21 -> compare("told " + g, () -> hub.told(g), () -> plain.told(g));
            case 22 -> compare("toggleAsked " + s + " " + a,
                    () -> hub.toggleAsked(s, a), () -> plain.toggleAsked(s, a));
            case 23 -> compare("missing " + g + " " + s + " " + t,
                    () -> hub.missing(g, s, t), () -> plain.missing(g, s, t));
            case 24 -> compare("complete " + s, () -> hub.complete(s), () -> plain.complete(s));
            case 25, 26, 27 -> compare("price " + g + " " + s, () -> hub.price(g, s), () -> plain.price(g, s));
            case 28 -> compare("changed " + s, () -> hub.changed(s), () -> plain.changed(s));
            default -> compare("feed " + s, () -> hub.feed(s), () -> plain.feed(s));
        }
    }

    private static String compare(String call, Check.Call ours, Check.Call due) {
        String want = Check.answerOf(due);
        Check.due(want, call, ours);
        return want;
    }

    private static String run(Check.Action action) {
        action.run();
        return "nothing thrown";
    }

    private int good() {
        return number(0, goods - 1);
    }

    /** Mostly a number in the range, now and then one that stands far off. */
    private int number(int lowest, int highest) {
        if (highest < lowest || random.nextInt(40) == 0) {
            return ODD[random.nextInt(ODD.length)];
        }
        return lowest + random.nextInt(highest - lowest + 1);
    }
}
