/** Promises 18 and 19: changed, feed. */
public final class FeedsTest {
    public static void main(String[] args) {
        newGoods();
        valuesThatChange();
        everyAttributeAndTongue();
        sameSights();
        shopsAreApart();
        inheritedSights();
        deletedGoods();
        allGoods();
        refusals();
        Check.end();
    }

    private static void newGoods() {
        Check.promise("promises 18 and 19");
        ShopHub hub = new ShopHub();
        hub.addGood(-1);
        Check.due(0, "a good without values", () -> hub.changed(0));
        Hubs.tell(hub, 0, 1, -1, -1, -1);
        Check.due(0, "a good that is told empty", () -> hub.changed(0));
        Hubs.tell(hub, 0, 2, -1, -1, 0);
        Check.due(1, "value 0 is to be seen", () -> hub.changed(0));
        Check.due(1, "changed itself tells no shop", () -> hub.changed(0));
        Check.due(1, "feed", () -> hub.feed(0));
        Check.due(0, "changed behind the feed", () -> hub.changed(0));
        Check.due(0, "feed again", () -> hub.feed(0));
    }

    private static void valuesThatChange() {
        Check.promise("promises 18 and 19");
        ShopHub hub = new ShopHub();
        hub.addGood(-1);
        hub.addGood(-1);
        hub.draft(1, 3, 0, 1, 5, 2);
        Check.due(0, "open", () -> hub.changed(0));
        hub.approve(0);
        Check.due(0, "for a day that is to come", () -> hub.changed(0));
        hub.pass(2);
        Check.due(2, "on its day", () -> hub.changed(0));
        Check.due(1, "feed", () -> hub.feed(0));
        hub.draft(1, 3, 0, 1, 6, 2);
        hub.approve(1);
        Check.due(2, "another value", () -> hub.changed(0));
        hub.reject(1);
        Check.due(0, "back to what it was", () -> hub.changed(0));
        hub.reject(0);
        Check.due(2, "nothing any more", () -> hub.changed(0));
        Check.due(1, "feed", () -> hub.feed(0));
        Check.due(0, "told", () -> hub.changed(0));
    }

    private static void everyAttributeAndTongue() {
        Check.promise("promises 18 and 19");
        for (int attribute = 0; attribute < 6; attribute++) {
            for (int tongue = 0; tongue < 3; tongue++) {
                ShopHub hub = new ShopHub();
                hub.addGood(-1);
                Hubs.tell(hub, 0, attribute, 2, tongue, 1);
                String sight = "attribute " + attribute + ", tongue " + tongue;
                Check.due(1, sight, () -> hub.changed(2));
                Check.due(1, sight, () -> hub.feed(2));
                Hubs.tell(hub, 0, attribute, 2, tongue, 2);
                Check.due(1, sight, () -> hub.feed(2));
                Check.due(0, sight, () -> hub.feed(2));
            }
        }
    }

    private static void sameSights() {
        Check.promise("promises 18 and 19");
        ShopHub hub = new ShopHub();
        hub.addGood(-1);
        hub.addGood(-1);
        Hubs.tell(hub, 0, 0, -1, -1, 5);
        hub.addPart(1, 0, 2);
        Check.due(1, "a price of parts is not seen", () -> hub.feed(0));
        Hubs.tell(hub, 0, 0, 0, -1, 5);
        Check.due(0, "the same value from another origin", () -> hub.changed(0));
        hub.toggleAsked(0, 0);
        hub.setDiscount(1, 5);
        Check.due(0, "asking and discounts are not seen", () -> hub.changed(0));
        Hubs.tell(hub, 0, 0, 0, 2, -1);
        Check.due(1, "a tongue told empty", () -> hub.changed(0));
    }

    private static void shopsAreApart() {
        Check.promise("promises 18 and 19");
        ShopHub hub = new ShopHub();
        hub.addGood(-1);
        Hubs.tell(hub, 0, 1, 1, -1, 5);
        Check.due(0, "shop 0", () -> hub.changed(0));
        Check.due(1, "shop 1", () -> hub.changed(1));
        Check.due(0, "shop 2", () -> hub.changed(2));
        Hubs.tell(hub, 0, 1, -1, -1, 6);
        Check.due(1, "feed of shop 0", () -> hub.feed(0));
        Check.due(1, "shop 1 is not fed by that", () -> hub.changed(1));
        Check.due(1, "shop 2 is not fed by that", () -> hub.changed(2));
        Check.due(1, "feed of shop 2", () -> hub.feed(2));
        Check.due(1, "feed of shop 1", () -> hub.feed(1));
        Hubs.tell(hub, 0, 1, 2, 0, 7);
        Check.due(0, "shop 1 sees nothing of shop 2", () -> hub.changed(1));
        Check.due(1, "shop 2", () -> hub.changed(2));
    }

    private static void inheritedSights() {
        Check.promise("promises 18 and 19");
        ShopHub hub = new ShopHub();
        hub.addGood(-1);
        hub.addGood(0);
        hub.addGood(1);
        hub.addGood(-1);
        Hubs.tell(hub, 0, 1, -1, -1, 5);
        Check.due(7, "the whole tree", () -> hub.changed(0));
        Check.due(3, "feed", () -> hub.feed(0));
        hub.move(1, 3);
        Check.due(6, "moved away", () -> hub.changed(0));
        hub.move(1, 0);
        Check.due(0, "and back", () -> hub.changed(0));
        hub.move(2, -1);
        Check.due(4, "the leaf alone", () -> hub.changed(0));
        Check.due(1, "feed", () -> hub.feed(0));
    }

    private static void deletedGoods() {
        Check.promise("promises 18 and 19");
        ShopHub hub = new ShopHub();
        hub.addGood(-1);
        hub.addGood(0);
        hub.addGood(-1);
        Hubs.tell(hub, 0, 1, -1, -1, 5);
        hub.delete(2);
        Check.due(0, "a deleted good of which nothing was seen", () -> hub.changed(1) & 4);
        Check.due(2, "feed", () -> hub.feed(0));
        hub.delete(1);
        Check.due(2, "deleted, what was inherited is not seen any more", () -> hub.changed(0));
        hub.delete(0);
        Check.due(3, "deleted, its own", () -> hub.changed(0));
        Check.due(0, "a shop that had not seen them", () -> hub.changed(1));
        Check.due(2, "feed tells of the deleted", () -> hub.feed(0));
        Check.due(0, "just once", () -> hub.changed(0));
        Check.due(0, "feed of a shop that had not seen them", () -> hub.feed(1));
    }

    private static void allGoods() {
        Check.promise("promises 18 and 19");
        ShopHub hub = new ShopHub();
        for (int good = 0; good < 16; good++) {
            hub.addGood(-1);
            Hubs.tell(hub, good, 5, -1, 2, good);
        }
        Check.due(65535, "changed", () -> hub.changed(2));
        Check.due(16, "feed", () -> hub.feed(2));
        Check.due(0, "changed", () -> hub.changed(2));
        hub.delete(15);
        Check.due(32768, "the last one deleted", () -> hub.changed(2));
    }

    private static void refusals() {
        Check.promise("promise 18");
        ShopHub hub = new ShopHub();
        hub.addGood(-1);
        Hubs.tell(hub, 0, 1, -1, -1, 5);
        Check.indexOut("changed(-1)", () -> hub.changed(-1));
        Check.indexOut("changed(3)", () -> hub.changed(3));
        Check.indexOut("changed(MAX)", () -> hub.changed(Integer.MAX_VALUE));
        Check.promise("promise 19");
        Check.indexOut("feed(-1)", () -> hub.feed(-1));
        Check.indexOut("feed(3)", () -> hub.feed(3));
        Check.indexOut("feed(MIN)", () -> hub.feed(Integer.MIN_VALUE));
        Check.due(1, "a refused feed tells nothing", () -> hub.changed(2));
    }
}
