/** Promise 17, and what the document's terms say of prices, sentence by sentence. */
public final class PricesEdgesTest {
    private static final Refusals BUSY = new Refusals(Hubs::busy);
    private static final Refusals FULL = new Refusals(Hubs::full);

    public static void main(String[] args) {
        valueGoesFirst();
        parts();
        roundedDown();
        none();
        lowerNumbers();
        price();
        priceGood();
        priceShop();
        priceReturns();
        priceThrowsIndex();
        priceThrowsStateIfNone();
        limitOfItself();
        limitBehindRounding();
        limitOfAPart();
        limitOfPartsThatDoNotCount();
        manyDearParts();
        Check.end();
    }

    private static void valueGoesFirst() {
        Check.sentence("terms", "The price of a good in a shop is its value of attribute 0 for this shop and tongue 0,"
                + " if it has one.");
        ShopHub hub = Hubs.of(-1, 0, -1);
        Hubs.tell(hub, 2, 0, -1, -1, 8);
        Hubs.tell(hub, 0, 0, 1, 0, 0);
        Hubs.tell(hub, 0, 0, 1, 1, 77);
        Hubs.tell(hub, 0, 1, -1, -1, 66);
        Check.due(0, "a value 0 is a price", () -> hub.price(0, 1));
        Check.due(0, "an inherited value is a price", () -> hub.price(1, 1));
        Check.illegalState("a value in another shop is none", () -> hub.price(0, 0));
        Hubs.tell(hub, 0, 0, 0, 1, 5);
        Hubs.tell(hub, 0, 0, 0, 2, 5);
        Check.illegalState("values for other tongues are none", () -> hub.price(0, 0));
        hub.setDiscount(2, 100);
        Check.due(8, "the discount is not for a value", () -> hub.price(2, 0));
        ShopHub bundle = Hubs.of(-1, -1, -1);
        Hubs.tell(bundle, 0, 0, -1, -1, 8);
        bundle.addPart(1, 0, 2);
        Check.due(16, "its parts, as long as it has no value", () -> bundle.price(1, 2));
        bundle.move(1, 2);
        Hubs.tell(bundle, 2, 0, -1, -1, 3);
        Check.due(3, "an inherited value goes ahead of the parts", () -> bundle.price(1, 2));
        Hubs.tell(bundle, 1, 0, 2, -1, -1);
        Check.due(16, "its parts, where it is told empty", () -> bundle.price(1, 2));
    }

    private static void namePriceOfParts() {
        Check.sentence("terms", "Otherwise, if it has parts, and all of these have prices in the shop,"
                + " it is the sum of price * quantity over its parts, times (100 - its discount),"
                + " divided by 100, rounded down.");
    }

    private static void parts() {
        namePriceOfParts();
        ShopHub hub = Hubs.of(-1, -1, -1);
        Hubs.tell(hub, 0, 0, 1, 0, 9);
        Hubs.tell(hub, 1, 0, 1, 0, 100);
        hub.addPart(2, 0, 1);
        Check.due(9, "one piece of one part", () -> hub.price(2, 1));
        hub.addPart(2, 1, 20);
        Check.due(2009, "20 pieces of another one", () -> hub.price(2, 1));
        Check.illegalState("in a shop in which no part has a price", () -> hub.price(2, 0));
        Hubs.tell(hub, 0, 0, 0, 0, 9);
        Check.illegalState("in a shop in which one of two parts has none", () -> hub.price(2, 0));
        Hubs.tell(hub, 1, 0, 0, 0, 0);
        Check.due(9, "in a shop in which one has the price 0", () -> hub.price(2, 0));
        hub.setDiscount(0, 50);
        Check.due(9, "a discount of a part that has a value does not count", () -> hub.price(2, 0));
    }

    private static void roundedDown() {
        namePriceOfParts();
        ShopHub hub = Hubs.of(-1, -1, -1);
        Hubs.tell(hub, 0, 0, -1, -1, 199);
        hub.addPart(1, 0, 1);
        int[][] pricesByDiscount = {{0, 199}, {1, 197}, {49, 101}, {50, 99}, {51, 97}, {99, 1}, {100, 0}};
        for (int[] row : pricesByDiscount) {
            hub.setDiscount(1, row[0]);
            Check.due(row[1], "199 with discount " + row[0], () -> hub.price(1, 0));
        }
        hub.setDiscount(1, 50);
        hub.addPart(2, 1, 3);
        Check.due(297, "3 pieces of a price that was rounded before", () -> hub.price(2, 0));
        hub.addPart(2, 0, 1);
        hub.setDiscount(2, 1);
        Check.due(491, "the sum of 496 is rounded once", () -> hub.price(2, 0));
    }

    private static void none() {
        Check.sentence("terms", "Otherwise it has none.");
        ShopHub hub = Hubs.of(-1, -1, -1);
        Check.illegalState("no value and no parts", () -> hub.price(0, 0));
        hub.addPart(1, 0, 1);
        Check.illegalState("no value and a part without a price", () -> hub.price(1, 0));
        hub.addPart(2, 1, 1);
        Check.illegalState("a part whose part has no price", () -> hub.price(2, 0));
        hub.setDiscount(2, 100);
        Check.illegalState("nor with a discount of 100", () -> hub.price(2, 0));
        Hubs.tell(hub, 0, 0, -1, -1, -1);
        Check.illegalState("a part that is told empty", () -> hub.price(2, 0));
        Hubs.tell(hub, 0, 0, -1, 0, 0);
        Check.due(0, "a part's part with price 0", () -> hub.price(2, 0));
    }

    private static void lowerNumbers() {
        Check.sentence("terms", "The parts of a good have lower numbers than it.");
        ShopHub hub = new ShopHub();
        hub.addGood(-1);
        Hubs.tell(hub, 0, 0, -1, -1, 7);
        for (int good = 1; good < 16; good++) {
            int g = good;
            hub.addGood(-1);
            hub.addPart(g, g - 1, 1);
            Check.illegalArgument("a good as a part of a lower one", () -> hub.addPart(g - 1, g, 1));
            Check.illegalArgument("a good as a part of itself", () -> hub.addPart(g, g, 1));
        }
        Check.due(7, "each good is made of the one before it", () -> hub.price(15, 0));
    }

    private static void price() {
        Check.sentence("promise 17", "Returns the price of a good in a shop.");
        ShopHub hub = Hubs.busy();
        Check.due(2108, "a bundle", () -> hub.price(4, 0));
        Check.due(1207, "in another shop", () -> hub.price(4, 1));
        Check.due(2108, "a bundle of a bundle", () -> hub.price(5, 0));
        Check.due(250, "a good below", () -> hub.price(2, 2));
        Check.due(2108, "looking at it changes nothing", () -> hub.price(5, 0));
    }

    private static void priceGood() {
        Check.sentence("promise 17", "- `good`: a good");
        Check.due(250, "the least", () -> Hubs.busy().price(0, 0));
        ShopHub hub = Hubs.of(-1, -1, -1, -1, -1, -1, -1, -1, -1, -1, -1, -1, -1, -1, -1, -1);
        Hubs.tell(hub, 15, 0, -1, -1, 4);
        Check.due(4, "the greatest there can be", () -> hub.price(15, 0));
        Check.illegalState("the one next to it", () -> hub.price(14, 0));
    }

    private static void priceShop() {
        Check.sentence("promise 17", "- `shop`: 0 to 2");
        ShopHub hub = Hubs.of(-1);
        Hubs.tell(hub, 0, 0, 0, -1, 30);
        Hubs.tell(hub, 0, 0, 2, -1, 32);
        Check.due(30, "the least", () -> hub.price(0, 0));
        Check.illegalState("the one between", () -> hub.price(0, 1));
        Check.due(32, "the greatest", () -> hub.price(0, 2));
    }

    private static void priceReturns() {
        Check.sentence("promise 17", "Returns the price.");
        ShopHub hub = Hubs.highTower();
        Check.due(1000000000, "the greatest", () -> hub.price(4, 0));
        Check.due(100000, "the greatest that is a value", () -> hub.price(0, 0));
        hub.setDiscount(4, 100);
        Check.due(0, "the least", () -> hub.price(4, 0));
    }

    private static void priceThrowsIndex() {
        Check.sentence("promise 17", "Throws `IndexOutOfBoundsException` if there is no such good or shop");
        for (int good : Wrong.GOODS) {
            BUSY.index("price(" + good + ", 0)", hub -> hub.price(good, 0));
        }
        for (int shop : Wrong.SHOPS) {
            BUSY.index("price(0, " + shop + ")", hub -> hub.price(0, shop));
            BUSY.index("price(7, " + shop + "), which has none either", hub -> hub.price(7, shop));
        }
        FULL.index("price(16, 0)", hub -> hub.price(16, 0));
    }

    private static void nameThrowsState() {
        Check.sentence("promise 17", "Throws `IllegalStateException` if it has none,"
                + " or a price that counts for it, behind its discount, would be more than 1000000000");
    }

    private static void priceThrowsStateIfNone() {
        nameThrowsState();
        BUSY.state("nothing told, no parts", hub -> hub.price(7, 0));
        Refusals empty = new Refusals(() -> Hubs.of(-1, -1));
        empty.state("nothing told at all", hub -> hub.price(0, 0));
    }

    private static void limitOfItself() {
        nameThrowsState();
        Refusals above = new Refusals(() -> {
            ShopHub hub = Hubs.highTower();
            Hubs.tell(hub, 5, 0, -1, -1, 1);
            hub.addPart(6, 4, 1);
            hub.addPart(6, 5, 1);
            return hub;
        });
        above.state("1000000001", hub -> hub.price(6, 0));
        ShopHub hub = Hubs.highTower();
        Hubs.tell(hub, 5, 0, -1, -1, 0);
        hub.addPart(6, 4, 1);
        hub.addPart(6, 5, 20);
        Check.due(1000000000, "1000000000", () -> hub.price(6, 0));
        Hubs.tell(hub, 5, 0, 2, -1, 1);
        Check.illegalState("1000000020 in another shop", () -> hub.price(6, 2));
        Check.due(1000000000, "which is nothing to this one", () -> hub.price(6, 0));
        hub.setDiscount(6, 1);
        Check.due(990000019, "behind the discount it is less", () -> hub.price(6, 2));
    }

    private static void limitBehindRounding() {
        nameThrowsState();
        ShopHub hub = Hubs.highTower();
        Hubs.tell(hub, 5, 0, -1, -1, 1011);
        hub.addPart(6, 4, 1);
        hub.addPart(6, 1, 5);
        hub.addPart(6, 0, 1);
        hub.addPart(6, 5, 1);
        Check.illegalState("1010101011 without a discount", () -> hub.price(6, 0));
        hub.setDiscount(6, 1);
        Check.due(1000000000, "99 percent of 1010101011, rounded down", () -> hub.price(6, 0));
        Hubs.tell(hub, 5, 0, -1, -1, 1012);
        Check.illegalState("99 percent of 1010101012 are more by 1", () -> hub.price(6, 0));
    }

    private static void limitOfAPart() {
        nameThrowsState();
        ShopHub hub = Hubs.highTower();
        hub.addPart(5, 4, 2);
        hub.addPart(6, 5, 1);
        Check.illegalState("2000 million", () -> hub.price(5, 0));
        Check.illegalState("2000 million in a part", () -> hub.price(6, 0));
        hub.setDiscount(6, 100);
        Check.illegalState("the part's price is above, whatever the whole's discount", () -> hub.price(6, 0));
        hub.setDiscount(5, 49);
        Check.illegalState("1020 million behind the part's discount", () -> hub.price(6, 0));
        hub.setDiscount(5, 50);
        hub.setDiscount(6, 0);
        Check.due(1000000000, "1000 million behind the part's discount", () -> hub.price(6, 0));
        hub.addPart(6, 0, 1);
        Check.illegalState("and another part", () -> hub.price(6, 0));
    }

    private static void limitOfPartsThatDoNotCount() {
        nameThrowsState();
        ShopHub hub = Hubs.highTower();
        hub.addPart(5, 4, 2);
        hub.addPart(6, 5, 2);
        Hubs.tell(hub, 6, 0, 1, 0, 12);
        Check.due(12, "a good with a value does not count its parts", () -> hub.price(6, 1));
        Check.illegalState("in another shop it does", () -> hub.price(6, 0));
        Hubs.tell(hub, 5, 0, 0, 0, 13);
        Check.due(26, "nor does a part with a value", () -> hub.price(6, 0));
        Check.illegalState("in another shop it does", () -> hub.price(6, 2));
        Check.due(1000000000, "goods of which it is made are their own", () -> hub.price(4, 2));
    }

    /** 20 pieces each of up to 11 parts, at 1000 million a piece. */
    private static void manyDearParts() {
        nameThrowsState();
        ShopHub hub = Hubs.highTower();
        for (int good = 7; good < 16; good++) {
            hub.addGood(-1);
        }
        for (int good = 5; good < 15; good++) {
            hub.addPart(good, good - 1, 1);
        }
        hub.addPart(15, 14, 20);
        hub.setDiscount(15, 95);
        Check.due(1000000000, "5 percent of 20000 million", () -> hub.price(15, 0));
        hub.setDiscount(15, 94);
        Check.illegalState("6 percent of 20000 million", () -> hub.price(15, 0));
        for (int part = 4; part < 14; part++) {
            hub.addPart(15, part, 20);
        }
        hub.setDiscount(15, 100);
        Check.due(0, "0 percent of 220000 million", () -> hub.price(15, 0));
        hub.setDiscount(15, 99);
        Check.illegalState("1 percent of 220000 million", () -> hub.price(15, 0));
        hub.setDiscount(15, 0);
        Check.illegalState("220000 million", () -> hub.price(15, 0));
    }
}
