/** Promises 18 and 19, and what the document's terms say of feeds, sentence by sentence. */
public final class FeedsEdgesTest {
    private static final Refusals EMPTY = new Refusals(ShopHub::new);
    private static final Refusals BUSY = new Refusals(Hubs::busy);

    public static void main(String[] args) {
        everyValueIsSeen();
        sightsAreValuesAlone();
        sightsAreOfThisShop();
        somethingElse();
        nothingAtFirst();
        deletedGoods();
        deletedBeforeItWasSeen();
        changed();
        changedShop();
        changedReturns();
        changedThrowsIndex();
        feed();
        feedShop();
        feedReturns();
        feedThrowsIndex();
        Check.end();
    }

    private static void everyValueIsSeen() {
        Check.sentence("terms", "What a shop sees of a good are its values of all attributes for all tongues.");
        ShopHub hub = Hubs.of(-1, -1, -1);
        for (int attribute = 0; attribute < 6; attribute++) {
            for (int tongue = 0; tongue < 3; tongue++) {
                String sight = "attribute " + attribute + " and tongue " + tongue;
                int a = attribute;
                int t = tongue;
                Hubs.tell(hub, 1, a, 2, t, 4);
                Check.due(2, sight, () -> hub.changed(2));
                Check.due(1, sight, () -> hub.feed(2));
                Check.due(0, sight, () -> hub.changed(2));
            }
        }
        for (int draft = 0; draft < 18; draft++) {
            hub.reject(draft);
            Check.due(1, "the value of draft " + draft + " is gone", () -> hub.feed(2));
        }
    }

    private static void sightsAreValuesAlone() {
        Check.sentence("terms", "What a shop sees of a good are its values of all attributes for all tongues.");
        ShopHub hub = Hubs.of(-1, -1);
        Hubs.tell(hub, 0, 0, -1, -1, 9);
        hub.feed(0);
        hub.addPart(1, 0, 1);
        hub.setDiscount(1, 10);
        Check.due(8, "a price of parts", () -> hub.price(1, 0));
        Check.due(0, "is not seen", () -> hub.changed(0));
        hub.toggleAsked(0, 0);
        Check.due(0, "nor what the shop asks for", () -> hub.changed(0));
        int closer = Hubs.tell(hub, 0, 0, 0, 0, 9);
        Check.due(1, "another origin", () -> hub.origin(0, 0, 0, 0));
        Check.due(0, "of the same value is not seen", () -> hub.changed(0));
        hub.reject(closer);
        Check.due(0, "nor that it is gone", () -> hub.changed(0));
        Hubs.tell(hub, 1, 3, -1, -1, -1);
        Check.due(1, "a draft that tells that there is none", () -> hub.told(1));
        Check.due(0, "is not seen where there was none", () -> hub.changed(0));
        hub.move(1, 0);
        Check.due(2, "an inherited value is seen", () -> hub.changed(0));
    }

    private static void sightsAreOfThisShop() {
        Check.sentence("terms", "What a shop sees of a good are its values of all attributes for all tongues.");
        for (int shop = 0; shop < 3; shop++) {
            for (int other = 0; other < 3; other++) {
                int s = other;
                ShopHub hub = Hubs.of(-1);
                Hubs.tell(hub, 0, 5, shop, 2, 1);
                Check.due(s == shop ? 1 : 0, "shop " + s + " of a value in shop " + shop, () -> hub.changed(s));
            }
        }
    }

    private static void nameFeed() {
        Check.sentence("terms", "A feed of a shop tells it of all goods of which it sees something else"
                + " than at its last feed (at first it has seen nothing of any good);"
                + " a good that was deleted since is one that it sees nothing of.");
    }

    private static void somethingElse() {
        nameFeed();
        ShopHub hub = Hubs.of(-1);
        Hubs.tell(hub, 0, 1, -1, -1, 0);
        Check.due(1, "value 0 instead of none", () -> hub.feed(0));
        int other = Hubs.tell(hub, 0, 1, -1, -1, 1);
        Check.due(1, "value 1 instead of 0", () -> hub.changed(0));
        hub.reject(other);
        Check.due(0, "value 0 again, with no feed between", () -> hub.changed(0));
        Hubs.tell(hub, 0, 1, -1, -1, -1);
        Check.due(1, "none instead of value 0", () -> hub.changed(0));
        Check.due(1, "feed", () -> hub.feed(0));
        Check.due(0, "nothing behind the feed", () -> hub.feed(0));
        Hubs.tell(hub, 0, 1, 0, 1, 0);
        Check.due(1, "value 0 again, with a feed between", () -> hub.changed(0));
    }

    private static void nothingAtFirst() {
        nameFeed();
        ShopHub hub = new ShopHub();
        Check.due(0, "no goods", () -> hub.feed(0));
        hub.addGood(-1);
        Check.due(0, "a good without values", () -> hub.feed(0));
        Hubs.tell(hub, 0, 2, -1, 1, 3);
        Check.due(1, "a good with a value", () -> hub.changed(0));
        Check.due(1, "in a shop that had no feed yet", () -> hub.changed(1));
    }

    private static void deletedGoods() {
        nameFeed();
        ShopHub hub = Hubs.of(-1, 0, -1);
        Hubs.tell(hub, 0, 1, -1, -1, 5);
        Hubs.tell(hub, 2, 1, 0, -1, 6);
        hub.feed(0);
        hub.feed(1);
        hub.delete(2);
        Check.due(4, "its own values are gone", () -> hub.changed(0));
        Check.due(0, "a shop that had seen nothing of it", () -> hub.changed(1));
        hub.delete(1);
        Check.due(6, "inherited values are gone", () -> hub.changed(0));
        hub.delete(0);
        Check.due(7, "all are gone", () -> hub.changed(0));
        Check.due(3, "the feed tells it", () -> hub.feed(0));
        Check.due(0, "once", () -> hub.changed(0));
        Check.due(0, "the next feed tells nothing", () -> hub.feed(0));
        Check.due(2, "the other shop's feed", () -> hub.feed(1));
    }

    private static void deletedBeforeItWasSeen() {
        nameFeed();
        ShopHub hub = Hubs.of(-1);
        Hubs.tell(hub, 0, 1, -1, -1, 5);
        Check.due(1, "to be seen", () -> hub.changed(0));
        hub.delete(0);
        Check.due(0, "deleted before the first feed", () -> hub.changed(0));
        Check.due(0, "and not told of", () -> hub.feed(0));
        hub.addGood(-1);
        Hubs.tell(hub, 1, 1, -1, -1, 5);
        Check.due(2, "the next good has a bit of its own", () -> hub.changed(0));
    }

    private static void changed() {
        Check.sentence("promise 18", "Returns the goods of which a shop sees something else than at its last feed.");
        ShopHub hub = Hubs.busy();
        Check.due(128 + 64 + 8, "7 has a new value, 6 was deleted, the day of a draft of 3 has come",
                () -> hub.changed(0));
        Check.due(200, "looking at it tells the shop nothing", () -> hub.changed(0));
        hub.pass(1);
        Check.due(200, "the day before a draft's day", () -> hub.changed(0));
        hub.pass(1);
        Check.due(207, "its day, in the good and all below it", () -> hub.changed(0));
    }

    private static void changedShop() {
        Check.sentence("promise 18", "- `shop`: 0 to 2");
        ShopHub hub = Hubs.of(-1, -1);
        Hubs.tell(hub, 0, 1, 0, -1, 5);
        Hubs.tell(hub, 1, 1, 2, -1, 5);
        Check.due(1, "the least", () -> hub.changed(0));
        Check.due(0, "the one between", () -> hub.changed(1));
        Check.due(2, "the greatest", () -> hub.changed(2));
    }

    /** Goods 0 to 15, each with a value in each shop. */
    private static ShopHub hubToBeSeen() {
        ShopHub hub = new ShopHub();
        for (int good = 0; good < 16; good++) {
            hub.addGood(-1);
            Hubs.tell(hub, good, 5, -1, 2, 0);
        }
        return hub;
    }

    private static void changedReturns() {
        Check.sentence("promise 18", "Returns the goods, deleted ones included, as a set: bit g for good g.");
        Check.due(0, "no goods", () -> new ShopHub().changed(0));
        for (int good = 0; good < 16; good++) {
            int g = good;
            ShopHub hub = hubToBeSeen();
            Check.due(65535, "all goods", () -> hub.changed(2));
            hub.feed(2);
            Check.due(0, "none", () -> hub.changed(2));
            hub.delete(g);
            Check.due(1 << g, "good " + g + " deleted", () -> hub.changed(2));
            Check.due(65535 - (1 << g), "in a shop that had no feed yet", () -> hub.changed(1));
        }
    }

    private static void changedThrowsIndex() {
        Check.sentence("promise 18", "Throws `IndexOutOfBoundsException` if there is no such shop");
        for (int shop : Wrong.SHOPS) {
            BUSY.index("changed(" + shop + ")", hub -> hub.changed(shop));
            EMPTY.index("changed(" + shop + ") without goods", hub -> hub.changed(shop));
        }
    }

    private static void feed() {
        Check.sentence("promise 19", "Sends a feed to a shop.");
        ShopHub hub = Hubs.busy();
        hub.feed(0);
        Check.due(0, "nothing is left to be told", () -> hub.changed(0));
        Check.due(15, "other shops are not told", () -> hub.changed(1));
        Check.due(false, "the feed leaves all else: an open draft", () -> hub.reject(7));
        Check.due(99, "the feed leaves all else: a value", () -> hub.value(3, 0, 0, 0));
        hub.pass(2);
        Check.due(7, "what comes behind it is told again", () -> hub.changed(0));
    }

    private static void feedShop() {
        Check.sentence("promise 19", "- `shop`: 0 to 2");
        for (int shop = 0; shop < 3; shop++) {
            int s = shop;
            ShopHub hub = hubToBeSeen();
            Check.due(16, "feed(" + s + ")", () -> hub.feed(s));
            for (int other = 0; other < 3; other++) {
                int o = other;
                Check.due(o == s ? 0 : 65535, "changed(" + o + ") behind feed(" + s + ")", () -> hub.changed(o));
            }
        }
    }

    private static void feedReturns() {
        Check.sentence("promise 19", "Returns of how many goods it tells.");
        Check.due(0, "no goods", () -> new ShopHub().feed(0));
        Check.due(3, "a deleted one among them", () -> Hubs.busy().feed(0));
        ShopHub hub = hubToBeSeen();
        Check.due(16, "all goods there can be", () -> hub.feed(1));
        Check.due(0, "nothing behind that", () -> hub.feed(1));
        Hubs.tell(hub, 15, 0, 1, 0, 1);
        Hubs.tell(hub, 15, 0, 1, 1, 1);
        Check.due(1, "two values of one good", () -> hub.feed(1));
        for (int good = 0; good < 16; good++) {
            hub.delete(good);
        }
        Check.due(16, "all goods deleted", () -> hub.feed(1));
        Check.due(0, "once", () -> hub.feed(1));
        Check.due(0, "a shop that had seen nothing", () -> hub.feed(2));
    }

    private static void feedThrowsIndex() {
        Check.sentence("promise 19", "Throws `IndexOutOfBoundsException` if there is no such shop");
        for (int shop : Wrong.SHOPS) {
            BUSY.index("feed(" + shop + ")", hub -> hub.feed(shop));
            EMPTY.index("feed(" + shop + ") without goods", hub -> hub.feed(shop));
        }
    }
}
