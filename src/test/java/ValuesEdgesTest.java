/** Promises 11 to 16, sentence by sentence: what stands just inside and just outside of it. */
public final class ValuesEdgesTest {
    private static final Refusals EMPTY = new Refusals(ShopHub::new);
    private static final Refusals BUSY = new Refusals(Hubs::busy);
    private static final Refusals FULL = new Refusals(Hubs::full);

    public static void main(String[] args) {
        value();
        valueArguments();
        valueReturns();
        valueThrowsIndex();
        valueThrowsState();
        origin();
        originArguments();
        originReturns();
        originThrowsIndex();
        told();
        toldGood();
        toldReturns();
        toldThrowsIndex();
        toggleAsked();
        toggleAskedArguments();
        toggleAskedReturns();
        toggleAskedThrowsIndex();
        missing();
        missingOfABundle();
        missingArguments();
        missingReturns();
        missingThrowsIndex();
        complete();
        completeShop();
        completeReturns();
        completeThrowsIndex();
        Check.end();
    }

    /** Good 15 alone has values of attributes 0 and 5, by shop and tongue. */
    private static ShopHub hubWithGood15() {
        ShopHub hub = new ShopHub();
        for (int good = 0; good < 16; good++) {
            hub.addGood(-1);
        }
        for (int shop = 0; shop < 3; shop++) {
            for (int tongue = 0; tongue < 3; tongue++) {
                Hubs.tell(hub, 15, 0, shop, tongue, 100 + 10 * shop + tongue);
                Hubs.tell(hub, 15, 5, shop, tongue, 500 + 10 * shop + tongue);
            }
        }
        return hub;
    }

    private static void value() {
        Check.sentence("promise 11", "Returns a value.");
        ShopHub hub = Hubs.busy();
        Check.due(250, "its own", () -> hub.value(0, 0, 0, 0));
        Check.due(250, "inherited from two levels above", () -> hub.value(2, 0, 0, 0));
        Check.due(0, "value 0 is a value", () -> hub.value(2, 3, 0, 1));
        Check.due(40, "looking at it changes nothing", () -> {
            hub.value(3, 0, 1, 0);
            return hub.value(3, 0, 1, 0);
        });
    }

    private static void valueArguments() {
        ShopHub hub = hubWithGood15();
        Check.sentence("promise 11", "- `good`: a good");
        Check.due(250, "the least", () -> Hubs.busy().value(0, 0, 0, 0));
        Check.due(100, "the greatest there can be", () -> hub.value(15, 0, 0, 0));
        Check.illegalState("the one next to it", () -> hub.value(14, 0, 0, 0));
        Check.sentence("promise 11", "- `attribute`: 0 to 5");
        Check.due(111, "the least", () -> hub.value(15, 0, 1, 1));
        Check.due(511, "the greatest", () -> hub.value(15, 5, 1, 1));
        Check.illegalState("the one next to it", () -> hub.value(15, 4, 1, 1));
        Check.sentence("promise 11", "- `shop`: 0 to 2");
        Check.due(502, "the least", () -> hub.value(15, 5, 0, 2));
        Check.due(522, "the greatest", () -> hub.value(15, 5, 2, 2));
        Check.sentence("promise 11", "- `tongue`: 0 to 2");
        Check.due(520, "the least", () -> hub.value(15, 5, 2, 0));
        Check.due(522, "the greatest", () -> hub.value(15, 5, 2, 2));
    }

    private static void valueReturns() {
        Check.sentence("promise 11", "Returns the value.");
        ShopHub hub = Hubs.of(-1);
        Hubs.tell(hub, 0, 1, -1, -1, 0);
        Check.due(0, "the least", () -> hub.value(0, 1, 0, 0));
        Hubs.tell(hub, 0, 1, -1, -1, 100000);
        Check.due(100000, "the greatest", () -> hub.value(0, 1, 0, 0));
        Check.due(99, "a discount is not for values", () -> {
            ShopHub busy = Hubs.busy();
            busy.setDiscount(3, 50);
            return busy.value(3, 0, 0, 0);
        });
    }

    private static void valueThrowsIndex() {
        Check.sentence("promise 11", "Throws `IndexOutOfBoundsException` if there is no such good, attribute,"
                + " shop or tongue");
        for (int good : Wrong.GOODS) {
            BUSY.index("value of good " + good, hub -> hub.value(good, 0, 0, 0));
        }
        for (int attribute : Wrong.ATTRIBUTES) {
            BUSY.index("value of attribute " + attribute, hub -> hub.value(0, attribute, 0, 0));
        }
        for (int shop : Wrong.SHOPS) {
            BUSY.index("value in shop " + shop, hub -> hub.value(0, 0, shop, 0));
        }
        for (int tongue : Wrong.TONGUES) {
            BUSY.index("value for tongue " + tongue, hub -> hub.value(0, 0, 0, tongue));
        }
        BUSY.index("no tongue, and no value either", hub -> hub.value(7, 0, 0, -1));
        FULL.index("value of good 16", hub -> hub.value(16, 0, 0, 0));
    }

    private static void valueThrowsState() {
        Check.sentence("promise 11", "Throws `IllegalStateException` if there is none");
        BUSY.state("nothing is told", hub -> hub.value(7, 0, 0, 0));
        BUSY.state("it is told empty by its own", hub -> hub.value(1, 0, 0, 1));
        BUSY.state("it is told empty by the parent", hub -> hub.value(2, 0, 0, 1));
        BUSY.state("its draft waits for its day", hub -> hub.value(0, 1, 0, 0));
        BUSY.state("its draft is open", hub -> hub.value(0, 2, 2, 2));
        BUSY.state("its draft is rejected", hub -> hub.value(2, 5, 2, 2));
        BUSY.state("another tongue has it", hub -> hub.value(1, 3, 0, 2));
        BUSY.state("a bundle has a price, but no value", hub -> hub.value(4, 0, 0, 0));
    }

    private static void origin() {
        Check.sentence("promise 12", "Returns the origin of a value, or of its being told empty.");
        ShopHub hub = Hubs.busy();
        Check.due(0, "of a value", () -> hub.origin(0, 0, 0, 0));
        Check.due(0, "of an inherited one", () -> hub.origin(2, 0, 0, 0));
        Check.due(3, "of being told empty", () -> hub.origin(1, 0, 2, 1));
        Check.due(3, "of being told empty by the parent", () -> hub.origin(2, 0, 2, 1));
    }

    private static void originArguments() {
        ShopHub hub = hubWithGood15();
        Check.sentence("promise 12", "- `good`: a good");
        Check.due(2, "the least", () -> Hubs.busy().origin(0, 0, 1, 0));
        Check.due(0, "the greatest there can be", () -> hub.origin(15, 0, 0, 0));
        Check.due(-1, "the one next to it", () -> hub.origin(14, 0, 0, 0));
        Check.sentence("promise 12", "- `attribute`: 0 to 5");
        Check.due(0, "the least", () -> hub.origin(15, 0, 0, 0));
        Check.due(1, "the greatest", () -> hub.origin(15, 5, 0, 0));
        Check.due(-1, "the one next to it", () -> hub.origin(15, 4, 0, 0));
        Check.sentence("promise 12", "- `shop`: 0 to 2");
        Check.due(0, "the least", () -> hub.origin(15, 0, 0, 0));
        Check.due(12, "the greatest", () -> hub.origin(15, 0, 2, 0));
        Check.sentence("promise 12", "- `tongue`: 0 to 2");
        Check.due(13, "the least", () -> hub.origin(15, 5, 2, 0));
        Check.due(17, "the greatest", () -> hub.origin(15, 5, 2, 2));
    }

    private static void originReturns() {
        Check.sentence("promise 12", "Returns number of the draft, -1 if there is none.");
        ShopHub hub = Hubs.of(-1, 0);
        Check.due(-1, "there is none", () -> hub.origin(1, 0, 0, 0));
        hub.draft(0, 0, -1, -1, 3, 0);
        Check.due(-1, "an open one is none", () -> hub.origin(1, 0, 0, 0));
        hub.approve(0);
        Check.due(0, "the least number", () -> hub.origin(1, 0, 0, 0));
        for (int draft = 1; draft < 200; draft++) {
            hub.draft(0, 0, -1, -1, 3, 0);
        }
        hub.approve(199);
        Check.due(199, "the greatest number", () -> hub.origin(1, 0, 0, 0));
        hub.reject(199);
        hub.reject(0);
        Check.due(-1, "there is none again", () -> hub.origin(1, 0, 0, 0));
    }

    private static void originThrowsIndex() {
        Check.sentence("promise 12", "Throws `IndexOutOfBoundsException` if there is no such good, attribute,"
                + " shop or tongue");
        for (int good : Wrong.GOODS) {
            BUSY.index("origin of good " + good, hub -> hub.origin(good, 0, 0, 0));
        }
        for (int attribute : Wrong.ATTRIBUTES) {
            BUSY.index("origin of attribute " + attribute, hub -> hub.origin(0, attribute, 0, 0));
        }
        for (int shop : Wrong.SHOPS) {
            BUSY.index("origin in shop " + shop, hub -> hub.origin(0, 0, shop, 0));
        }
        for (int tongue : Wrong.TONGUES) {
            BUSY.index("origin for tongue " + tongue, hub -> hub.origin(0, 0, 0, tongue));
        }
        FULL.index("origin of good 16", hub -> hub.origin(16, 0, 0, 0));
    }

    private static void told() {
        Check.sentence("promise 13", "Returns how many places of a good itself have a draft that holds.");
        ShopHub hub = Hubs.busy();
        Check.due(2, "two drafts at one place are one place; one that waits is none", () -> hub.told(0));
        Check.due(2, "an empty one holds too", () -> hub.told(1));
        Check.due(0, "inherited ones are not its own", () -> hub.told(2));
        hub.pass(1);
        Check.due(2, "the day before a draft's day", () -> hub.told(0));
        hub.pass(1);
        Check.due(3, "the draft's day", () -> hub.told(0));
    }

    private static void toldGood() {
        Check.sentence("promise 13", "- `good`: a good");
        Check.due(2, "the least", () -> Hubs.busy().told(0));
        Check.due(1, "the greatest that is there", () -> Hubs.busy().told(7));
        Check.due(18, "the greatest there can be", () -> hubWithGood15().told(15));
        Check.due(0, "the one next to it", () -> hubWithGood15().told(14));
    }

    private static void toldReturns() {
        Check.sentence("promise 13", "Returns the number.");
        ShopHub hub = Hubs.of(-1, -1, -1);
        int places = 0;
        for (int attribute = 0; attribute < 6; attribute++) {
            for (int shop = -1; shop < 3; shop++) {
                for (int tongue = -1; tongue < 3; tongue++) {
                    int due = places++;
                    Check.due(due, "place by place", () -> hub.told(1));
                    Hubs.tell(hub, 1, attribute, shop, tongue, -1);
                }
            }
        }
        Check.due(96, "all places", () -> hub.told(1));
        Check.due(0, "nothing of the good before", () -> hub.told(0));
        Check.due(0, "nothing of the good behind", () -> hub.told(2));
    }

    private static void toldThrowsIndex() {
        Check.sentence("promise 13", "Throws `IndexOutOfBoundsException` if there is no such good");
        for (int good : Wrong.GOODS) {
            BUSY.index("told(" + good + ")", hub -> hub.told(good));
        }
        FULL.index("told(16)", hub -> hub.told(16));
        EMPTY.index("told(0) without goods", hub -> hub.told(0));
    }

    private static void toggleAsked() {
        Check.sentence("promise 14", "Lets a shop ask for an attribute, or not ask for it any more.");
        ShopHub hub = Hubs.of(-1);
        Check.due(0, "nothing asked for at first", () -> hub.missing(0, 1, 0));
        hub.toggleAsked(1, 4);
        Check.due(16, "asked for", () -> hub.missing(0, 1, 0));
        Check.due(0, "not by the shop before", () -> hub.missing(0, 0, 0));
        Check.due(0, "not by the shop behind", () -> hub.missing(0, 2, 0));
        hub.toggleAsked(1, 4);
        Check.due(0, "not asked for any more", () -> hub.missing(0, 1, 0));
    }

    private static void toggleAskedArguments() {
        ShopHub hub = Hubs.of(-1);
        hub.toggleAsked(0, 5);
        hub.toggleAsked(2, 0);
        Check.sentence("promise 14", "- `shop`: 0 to 2");
        Check.due(32, "the least", () -> hub.missing(0, 0, 0));
        Check.due(0, "the one between", () -> hub.missing(0, 1, 0));
        Check.due(1, "the greatest", () -> hub.missing(0, 2, 0));
        Check.sentence("promise 14", "- `attribute`: 0 to 5");
        Check.due(false, "the greatest", () -> hub.toggleAsked(0, 5));
        Check.due(false, "the least", () -> hub.toggleAsked(2, 0));
        Check.due(true, "the one next to the greatest", () -> hub.toggleAsked(0, 4));
        Check.due(true, "the one next to the least", () -> hub.toggleAsked(2, 1));
    }

    private static void toggleAskedReturns() {
        Check.sentence("promise 14", "Returns true if it asks for it then.");
        ShopHub hub = new ShopHub();
        for (int turn = 0; turn < 3; turn++) {
            Check.due(true, "asked for", () -> hub.toggleAsked(1, 2));
            Check.due(true, "by another shop too", () -> hub.toggleAsked(2, 2));
            Check.due(false, "not any more", () -> hub.toggleAsked(1, 2));
            Check.due(false, "nor by the other", () -> hub.toggleAsked(2, 2));
        }
    }

    private static void toggleAskedThrowsIndex() {
        Check.sentence("promise 14", "Throws `IndexOutOfBoundsException` if there is no such shop or attribute");
        for (int shop : Wrong.SHOPS) {
            BUSY.index("toggleAsked(" + shop + ", 0)", hub -> hub.toggleAsked(shop, 0));
        }
        for (int attribute : Wrong.ATTRIBUTES) {
            BUSY.index("toggleAsked(0, " + attribute + ")", hub -> hub.toggleAsked(0, attribute));
            BUSY.index("toggleAsked(1, " + attribute + ")", hub -> hub.toggleAsked(1, attribute));
            BUSY.index("toggleAsked(2, " + attribute + ")", hub -> hub.toggleAsked(2, attribute));
        }
        EMPTY.index("toggleAsked(3, 6)", hub -> hub.toggleAsked(3, 6));
    }

    private static void missing() {
        Check.sentence("promise 15", "Returns the attributes for which a shop asks and of which a good has no value.");
        ShopHub hub = Hubs.busy();
        Check.due(10, "1 and 3 have no value", () -> hub.missing(0, 0, 1));
        Check.due(3, "0 is told empty, 3 has value 0", () -> hub.missing(1, 0, 1));
        Check.due(3, "a good below inherits that", () -> hub.missing(2, 0, 1));
        Check.due(32, "a rejected draft gives no value", () -> hub.missing(2, 2, 2));
        Check.due(0, "a shop that asks for nothing", () -> hub.missing(7, 1, 0));
        hub.pass(2);
        Check.due(8, "1 has a value from its day on", () -> hub.missing(0, 0, 1));
        hub.toggleAsked(0, 3);
        Check.due(0, "3 is not asked for any more", () -> hub.missing(0, 0, 1));
    }

    private static void missingOfABundle() {
        Check.sentence("promise 15", "Returns the attributes for which a shop asks and of which a good has no value.");
        ShopHub hub = Hubs.busy();
        Check.due(2108, "a price of parts", () -> hub.price(4, 0));
        Check.due(1, "is no value of attribute 0", () -> hub.missing(4, 0, 0) & 1);
    }

    private static void missingArguments() {
        ShopHub hub = hubWithGood15();
        for (int shop = 0; shop < 3; shop++) {
            hub.toggleAsked(shop, 5);
        }
        hub.reject(1);
        hub.reject(17);
        Check.sentence("promise 15", "- `good`: a good");
        Check.due(32, "the least", () -> hub.missing(0, 0, 1));
        Check.due(32, "the one next to the greatest", () -> hub.missing(14, 0, 1));
        Check.due(0, "the greatest there can be", () -> hub.missing(15, 0, 1));
        Check.sentence("promise 15", "- `shop`: 0 to 2");
        Check.due(32, "the least", () -> hub.missing(15, 0, 0));
        Check.due(0, "the one between", () -> hub.missing(15, 1, 0));
        Check.due(32, "the greatest", () -> hub.missing(15, 2, 2));
        Check.sentence("promise 15", "- `tongue`: 0 to 2");
        Check.due(0, "the least", () -> hub.missing(15, 2, 0));
        Check.due(0, "the one between", () -> hub.missing(15, 2, 1));
        Check.due(32, "the greatest", () -> hub.missing(15, 2, 2));
    }

    private static void missingReturns() {
        Check.sentence("promise 15", "Returns the attributes, as a set: bit a for attribute a.");
        ShopHub hub = Hubs.of(-1);
        Check.due(0, "the empty set", () -> hub.missing(0, 0, 0));
        for (int attribute = 0; attribute < 6; attribute++) {
            int bit = 1 << attribute;
            hub.toggleAsked(0, attribute);
            Check.due(bit, "one attribute", () -> hub.missing(0, 0, 0));
            hub.toggleAsked(0, attribute);
        }
        for (int attribute = 0; attribute < 6; attribute++) {
            hub.toggleAsked(0, attribute);
        }
        Check.due(63, "all attributes", () -> hub.missing(0, 0, 0));
        for (int attribute = 0; attribute < 6; attribute++) {
            Hubs.tell(hub, 0, attribute, 0, 0, 0);
        }
        Check.due(0, "all of them with values", () -> hub.missing(0, 0, 0));
        Check.due(63, "for another tongue without", () -> hub.missing(0, 0, 1));
    }

    private static void missingThrowsIndex() {
        Check.sentence("promise 15", "Throws `IndexOutOfBoundsException` if there is no such good, shop or tongue");
        for (int good : Wrong.GOODS) {
            BUSY.index("missing of good " + good, hub -> hub.missing(good, 0, 0));
        }
        for (int shop : Wrong.SHOPS) {
            BUSY.index("missing in shop " + shop, hub -> hub.missing(0, shop, 0));
        }
        for (int tongue : Wrong.TONGUES) {
            BUSY.index("missing for tongue " + tongue, hub -> hub.missing(0, 0, tongue));
        }
        FULL.index("missing of good 16", hub -> hub.missing(16, 0, 0));
    }

    private static void complete() {
        Check.sentence("promise 16", "Returns the number of goods that are complete in a shop:"
                + " of which nothing is missing for any tongue.");
        ShopHub hub = Hubs.of(-1);
        hub.toggleAsked(0, 2);
        Check.due(0, "missing for all tongues", () -> hub.complete(0));
        for (int tongue = 0; tongue < 3; tongue++) {
            int draft = Hubs.tell(hub, 0, 2, -1, tongue, -1);
            Hubs.tell(hub, 0, 2, -1, -1, 9);
            Check.due(0, "missing for one tongue", () -> hub.complete(0));
            hub.reject(draft);
            Check.due(1, "missing for none", () -> hub.complete(0));
        }
        hub.toggleAsked(0, 3);
        Check.due(0, "one of two attributes is missing", () -> hub.complete(0));
    }

    private static void completeShop() {
        Check.sentence("promise 16", "- `shop`: 0 to 2");
        ShopHub hub = Hubs.of(-1, -1, -1);
        for (int shop = 0; shop < 3; shop++) {
            hub.toggleAsked(shop, 5);
        }
        Hubs.tell(hub, 0, 5, 0, -1, 1);
        Hubs.tell(hub, 0, 5, 2, -1, 1);
        Hubs.tell(hub, 1, 5, 2, -1, 1);
        Check.due(1, "the least", () -> hub.complete(0));
        Check.due(0, "the one between", () -> hub.complete(1));
        Check.due(2, "the greatest", () -> hub.complete(2));
    }

    private static void completeReturns() {
        Check.sentence("promise 16", "Returns the number.");
        Check.due(0, "no goods, nothing asked for", () -> new ShopHub().complete(0));
        Check.due(7, "deleted goods do not count", () -> Hubs.busy().complete(1));
        Check.due(16, "all goods there can be, nothing asked for", () -> hubWithGood15().complete(0));
        ShopHub hub = hubWithGood15();
        hub.toggleAsked(2, 5);
        hub.toggleAsked(2, 0);
        Check.due(1, "the last good alone", () -> hub.complete(2));
        hub.delete(15);
        Check.due(0, "which is deleted then", () -> hub.complete(2));
        ShopHub bundle = Hubs.of(-1, -1);
        Hubs.tell(bundle, 0, 0, -1, -1, 5);
        bundle.addPart(1, 0, 1);
        bundle.toggleAsked(0, 0);
        Check.due(5, "a bundle has a price", () -> bundle.price(1, 0));
        Check.due(1, "but no value, so that it is not complete", () -> bundle.complete(0));
    }

    private static void completeThrowsIndex() {
        Check.sentence("promise 16", "Throws `IndexOutOfBoundsException` if there is no such shop");
        for (int shop : Wrong.SHOPS) {
            BUSY.index("complete(" + shop + ")", hub -> hub.complete(shop));
            EMPTY.index("complete(" + shop + ") without goods", hub -> hub.complete(shop));
        }
    }
}
