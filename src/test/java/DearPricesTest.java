import java.util.Random;

/** Promise 17: towers of parts whose prices lie round the limit, each price compared with that of PlainHub. */
public final class DearPricesTest {
    private static final int RUNS = 400;
    private static final int GOODS = 16;

    private static int nearLimit = 0;
    private static int refused = 0;

    private final Random random;
    private final ShopHub hub = new ShopHub();
    private final PlainHub plain = new PlainHub();

    private DearPricesTest(int run) {
        random = new Random(run);
    }

    public static void main(String[] args) {
        for (int run = 0; run < RUNS; run++) {
            Check.promise("run " + run);
            DearPricesTest test = new DearPricesTest(run);
            test.build();
            test.comparePrices();
            test.changeDiscounts();
            test.comparePrices();
        }
        Check.promise("the runs");
        Check.due(true, "many prices just below the limit", () -> nearLimit > 1000);
        Check.due(true, "many prices refused", () -> refused > 1000);
        Check.end();
    }

    private void build() {
        for (int good = 0; good < GOODS; good++) {
            hub.addGood(-1);
            plain.addGood(-1);
        }
        tell(0, -1, 100000 - random.nextInt(3));
        for (int good = 1; good < GOODS; good++) {
            addPart(good, good - 1, good < 4 ? 20 : 1 + random.nextInt(3));
            if (random.nextInt(3) == 0) {
                addPart(good, random.nextInt(good), 1);
            }
        }
        for (int more = random.nextInt(4); more > 0; more--) {
            tell(4 + random.nextInt(GOODS - 4), random.nextInt(3), random.nextInt(4) - 1);
        }
        changeDiscounts();
    }

    private void addPart(int good, int part, int quantity) {
        compare("addPart " + good + " " + part + " " + quantity,
                () -> hub.addPart(good, part, quantity), () -> plain.addPart(good, part, quantity));
    }

    private void tell(int good, int shop, int value) {
        int draft = hub.draft(good, 0, shop, -1, value, 0);
        plain.draft(good, 0, shop, -1, value, 0);
        hub.approve(draft);
        plain.approve(draft);
    }

    /** Discounts of 0, of some 50 and of 100, so that towers grow, stay and fall to nothing. */
    private void changeDiscounts() {
        for (int good = 4; good < GOODS; good++) {
            int kind = random.nextInt(8);
            int discount = kind == 0 ? 100 : kind < 3 ? 0 : 40 + random.nextInt(30);
            int g = good;
            compare("setDiscount " + g + " " + discount,
                    () -> hub.setDiscount(g, discount), () -> plain.setDiscount(g, discount));
        }
    }

    private void comparePrices() {
        for (int good = 0; good < GOODS; good++) {
            for (int shop = 0; shop < 3; shop++) {
                int g = good;
                int s = shop;
                String want = compare("price " + g + " " + s, () -> hub.price(g, s), () -> plain.price(g, s));
                refused += want.startsWith("throws") ? 1 : 0;
                nearLimit += want.length() >= 9 && !want.startsWith("throws") ? 1 : 0;
            }
        }
    }

    private static String compare(String call, Check.Call ours, Check.Call due) {
        String want = Check.answerOf(due);
        Check.due(want, call, ours);
        return want;
    }
}
