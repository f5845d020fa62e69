/** Promises 11 to 17: value, origin, told, toggleAsked, missing, complete, price. */
public final class ValuesTest {
    private static final int MAX = Integer.MAX_VALUE;
    private static final int MIN = Integer.MIN_VALUE;

    public static void main(String[] args) {
        placesInTheirOrder();
        parentsBehindAllOwnPlaces();
        emptyDecides();
        valueRefuses();
        originRefuses();
        told();
        toggleAsked();
        missing();
        complete();
        priceIsTold();
        priceOfParts();
        priceIsRoundedDown();
        priceNeedsAllParts();
        priceLimit();
        priceRefuses();
        Check.end();
    }

    private static void placesInTheirOrder() {
        Check.promise("promises 11 and 12");
        ShopHub hub = Hubs.of(-1);
        Hubs.tell(hub, 0, 3, -1, -1, 10);
        Check.due(10, "all shops and all tongues", () -> hub.value(0, 3, 1, 2));
        Hubs.tell(hub, 0, 3, -1, 2, 11);
        Check.due(11, "all shops and this tongue", () -> hub.value(0, 3, 1, 2));
        Check.due(1, "its origin", () -> hub.origin(0, 3, 1, 2));
        Check.due(10, "another tongue", () -> hub.value(0, 3, 1, 1));
        Hubs.tell(hub, 0, 3, 1, -1, 12);
        Check.due(12, "this shop and all tongues", () -> hub.value(0, 3, 1, 2));
        Check.due(2, "its origin", () -> hub.origin(0, 3, 1, 2));
        Check.due(11, "another shop", () -> hub.value(0, 3, 0, 2));
        Hubs.tell(hub, 0, 3, 1, 2, 13);
        Check.due(13, "this shop and this tongue", () -> hub.value(0, 3, 1, 2));
        Check.due(3, "its origin", () -> hub.origin(0, 3, 1, 2));
        Check.due(12, "another tongue", () -> hub.value(0, 3, 1, 0));
        Check.due(10, "another shop and tongue", () -> hub.value(0, 3, 2, 0));
        Check.illegalState("another attribute", () -> hub.value(0, 2, 1, 2));
        Check.due(-1, "its origin", () -> hub.origin(0, 2, 1, 2));
    }

    private static void parentsBehindAllOwnPlaces() {
        Check.promise("promises 11 and 12");
        ShopHub hub = Hubs.of(-1, 0, 1, 0);
        Hubs.tell(hub, 0, 5, 2, 2, 20);
        Check.due(20, "from two levels above", () -> hub.value(2, 5, 2, 2));
        Hubs.tell(hub, 1, 5, -1, -1, 21);
        Check.due(21, "the parent's widest place is ahead of its parent's closest", () -> hub.value(2, 5, 2, 2));
        Check.due(1, "its origin", () -> hub.origin(2, 5, 2, 2));
        Hubs.tell(hub, 2, 5, -1, 2, 22);
        Check.due(22, "its own", () -> hub.value(2, 5, 2, 2));
        Check.due(21, "the parent's, another tongue", () -> hub.value(2, 5, 2, 1));
        Check.due(20, "the uppermost's own", () -> hub.value(0, 5, 2, 2));
        Check.due(20, "the brother's", () -> hub.value(3, 5, 2, 2));
        Check.illegalState("children give their parents nothing", () -> hub.value(0, 5, 0, 0));
        Hubs.tell(hub, 3, 0, 0, 0, 0);
        Check.due(0, "value 0 is a value", () -> hub.value(3, 0, 0, 0));
        Hubs.tell(hub, 3, 0, 0, 0, 100000);
        Check.due(100000, "the highest value", () -> hub.value(3, 0, 0, 0));
    }

    private static void emptyDecides() {
        Check.promise("promises 11 and 12");
        ShopHub hub = Hubs.of(-1, 0);
        Hubs.tell(hub, 0, 4, -1, -1, 30);
        Hubs.tell(hub, 1, 4, -1, 0, -1);
        Check.illegalState("told empty, though the parent has one", () -> hub.value(1, 4, 0, 0));
        Check.due(1, "the empty draft is the origin", () -> hub.origin(1, 4, 0, 0));
        Check.due(30, "another tongue", () -> hub.value(1, 4, 0, 1));
        Hubs.tell(hub, 1, 4, 0, 0, 31);
        Check.due(31, "a closer place", () -> hub.value(1, 4, 0, 0));
        hub.reject(1);
        hub.reject(2);
        Check.due(30, "the parent's again", () -> hub.value(1, 4, 0, 0));
        hub.reject(0);
        Check.due(-1, "no origin", () -> hub.origin(1, 4, 0, 0));
    }

    private static void valueRefuses() {
        Check.promise("promise 11");
        ShopHub hub = Hubs.of(-1, -1);
        hub.delete(1);
        Check.illegalState("none", () -> hub.value(0, 0, 0, 0));
        Check.indexOut("good -1", () -> hub.value(-1, 0, 0, 0));
        Check.indexOut("good 2", () -> hub.value(2, 0, 0, 0));
        Check.indexOut("good 16", () -> hub.value(16, 0, 0, 0));
        Check.indexOut("good MAX", () -> hub.value(MAX, 0, 0, 0));
        Check.indexOut("a deleted good", () -> hub.value(1, 0, 0, 0));
        Check.indexOut("attribute -1", () -> hub.value(0, -1, 0, 0));
        Check.indexOut("attribute 6", () -> hub.value(0, 6, 0, 0));
        Check.indexOut("shop -1", () -> hub.value(0, 0, -1, 0));
        Check.indexOut("shop 3", () -> hub.value(0, 0, 3, 0));
        Check.indexOut("tongue -1", () -> hub.value(0, 0, 0, -1));
        Check.indexOut("tongue 3", () -> hub.value(0, 0, 0, 3));
        Check.indexOut("tongue MIN", () -> hub.value(0, 0, 0, MIN));
    }

    private static void originRefuses() {
        Check.promise("promise 12");
        ShopHub hub = Hubs.of(-1, -1);
        hub.delete(1);
        Check.due(-1, "none", () -> hub.origin(0, 0, 0, 0));
        Check.indexOut("good -1", () -> hub.origin(-1, 0, 0, 0));
        Check.indexOut("good 2", () -> hub.origin(2, 0, 0, 0));
        Check.indexOut("a deleted good", () -> hub.origin(1, 0, 0, 0));
        Check.indexOut("attribute -1", () -> hub.origin(0, -1, 0, 0));
        Check.indexOut("attribute 6", () -> hub.origin(0, 6, 0, 0));
        Check.indexOut("shop -1", () -> hub.origin(0, 0, -1, 0));
        Check.indexOut("shop 3", () -> hub.origin(0, 0, 3, 0));
        Check.indexOut("tongue -1", () -> hub.origin(0, 0, 0, -1));
        Check.indexOut("tongue 3", () -> hub.origin(0, 0, 0, 3));
    }

    private static void told() {
        Check.promise("promise 13");
        ShopHub hub = Hubs.of(-1, 0);
        Check.due(0, "nothing yet", () -> hub.told(0));
        Hubs.tell(hub, 0, 0, -1, -1, 1);
        Hubs.tell(hub, 0, 0, -1, -1, 2);
        Check.due(1, "two drafts at one place", () -> hub.told(0));
        Hubs.tell(hub, 0, 0, 0, -1, 2);
        Hubs.tell(hub, 0, 0, -1, 0, 2);
        Hubs.tell(hub, 0, 5, 2, 2, -1);
        Check.due(4, "four places, one of them empty", () -> hub.told(0));
        Check.due(0, "a child's own places only", () -> hub.told(1));
        hub.draft(0, 1, 0, 0, 2, 1);
        Check.due(4, "an open draft does not count", () -> hub.told(0));
        hub.approve(5);
        Check.due(4, "nor one for a day that is to come", () -> hub.told(0));
        hub.pass(1);
        Check.due(5, "on its day it does", () -> hub.told(0));
        hub.reject(1);
        Check.due(5, "another draft of the place takes over", () -> hub.told(0));
        hub.reject(0);
        Check.due(4, "none is left there", () -> hub.told(0));
        Check.indexOut("told(-1)", () -> hub.told(-1));
        Check.indexOut("told(2)", () -> hub.told(2));
        Check.indexOut("told(16)", () -> hub.told(16));
        Check.indexOut("told(MAX)", () -> hub.told(MAX));
        Check.due(96, "all places of a good", ValuesTest::toldEverywhere);
    }

    private static int toldEverywhere() {
        ShopHub hub = Hubs.of(-1, -1, -1);
        for (int attribute = 0; attribute < 6; attribute++) {
            for (int shop = -1; shop < 3; shop++) {
                for (int tongue = -1; tongue < 3; tongue++) {
                    Hubs.tell(hub, 1, attribute, shop, tongue, 1);
                }
            }
        }
        return hub.told(1) + 1000 * hub.told(0) + 1000 * hub.told(2);
    }

    private static void toggleAsked() {
        Check.promise("promise 14");
        ShopHub hub = Hubs.of(-1);
        Check.due(true, "asked", () -> hub.toggleAsked(0, 5));
        Check.due(true, "another shop", () -> hub.toggleAsked(2, 5));
        Check.due(true, "another attribute", () -> hub.toggleAsked(0, 0));
        Check.due(false, "asked no more", () -> hub.toggleAsked(0, 5));
        Check.due(1, "missing", () -> hub.missing(0, 0, 0));
        Check.due(32, "missing in the other shop", () -> hub.missing(0, 2, 0));
        Check.due(true, "asked again", () -> hub.toggleAsked(0, 5));
        Check.indexOut("shop 3", () -> hub.toggleAsked(3, 0));
        Check.indexOut("shop -1", () -> hub.toggleAsked(-1, 0));
        Check.indexOut("attribute 6", () -> hub.toggleAsked(0, 6));
        Check.indexOut("attribute -1", () -> hub.toggleAsked(0, -1));
        Check.indexOut("attribute -1 of shop 1", () -> hub.toggleAsked(1, -1));
        Check.indexOut("MAX, MAX", () -> hub.toggleAsked(MAX, MAX));
        Check.due(33, "refusals change nothing", () -> hub.missing(0, 0, 0));
    }

    private static void missing() {
        Check.promise("promise 15");
        ShopHub hub = Hubs.of(-1, 0);
        Check.due(0, "nothing is asked for", () -> hub.missing(1, 0, 0));
        for (int attribute = 0; attribute < 6; attribute++) {
            hub.toggleAsked(1, attribute);
        }
        Check.due(63, "everything", () -> hub.missing(1, 1, 0));
        Check.due(0, "another shop asks for nothing", () -> hub.missing(1, 0, 0));
        Hubs.tell(hub, 0, 2, -1, -1, 0);
        Check.due(59, "an inherited value is there", () -> hub.missing(1, 1, 0));
        Hubs.tell(hub, 1, 2, 1, 2, -1);
        Check.due(63, "told empty is missing", () -> hub.missing(1, 1, 2));
        Check.due(59, "for another tongue it is not", () -> hub.missing(1, 1, 1));
        Hubs.tell(hub, 0, 0, -1, -1, 9);
        ShopHub bundle = Hubs.of(-1, -1);
        Hubs.tell(bundle, 0, 0, -1, -1, 9);
        bundle.addPart(1, 0, 1);
        bundle.toggleAsked(0, 0);
        Check.due(1, "a price of parts is no value", () -> bundle.missing(1, 0, 0));
        hub.toggleAsked(1, 5);
        Check.due(26, "not asked for any more", () -> hub.missing(1, 1, 0));
        Check.indexOut("good -1", () -> hub.missing(-1, 0, 0));
        Check.indexOut("good 2", () -> hub.missing(2, 0, 0));
        Check.indexOut("shop -1", () -> hub.missing(0, -1, 0));
        Check.indexOut("shop 3", () -> hub.missing(0, 3, 0));
        Check.indexOut("tongue -1", () -> hub.missing(0, 0, -1));
        Check.indexOut("tongue 3", () -> hub.missing(0, 0, 3));
    }

    private static void complete() {
        Check.promise("promise 16");
        ShopHub hub = Hubs.of(-1, 0, -1);
        Check.due(3, "nothing is asked for", () -> hub.complete(0));
        hub.toggleAsked(0, 1);
        Check.due(0, "nobody has it", () -> hub.complete(0));
        Check.due(3, "another shop", () -> hub.complete(1));
        Hubs.tell(hub, 0, 1, 0, 0, 1);
        Hubs.tell(hub, 0, 1, 0, 1, 1);
        Check.due(0, "one tongue is missing", () -> hub.complete(0));
        Hubs.tell(hub, 0, 1, 0, 2, 1);
        Check.due(2, "the good and its child", () -> hub.complete(0));
        Hubs.tell(hub, 1, 1, 0, 2, -1);
        Check.due(1, "the child is told empty for a tongue", () -> hub.complete(0));
        Hubs.tell(hub, 2, 1, -1, 1, 1);
        Hubs.tell(hub, 2, 1, -1, 2, 1);
        Check.due(1, "tongue 0 alone is missing", () -> hub.complete(0));
        hub.toggleAsked(0, 1);
        Check.due(3, "not asked for any more", () -> hub.complete(0));
        hub.delete(2);
        Check.due(2, "a deleted good does not count", () -> hub.complete(0));
        Check.indexOut("complete(-1)", () -> hub.complete(-1));
        Check.indexOut("complete(3)", () -> hub.complete(3));
        Check.indexOut("complete(MIN)", () -> hub.complete(MIN));
    }

    private static void priceIsTold() {
        Check.promise("promise 17");
        ShopHub hub = Hubs.of(-1, 0, -1);
        Hubs.tell(hub, 0, 0, -1, -1, 100);
        Check.due(100, "its value", () -> hub.price(0, 2));
        Check.due(100, "an inherited value", () -> hub.price(1, 2));
        Hubs.tell(hub, 0, 0, 2, 1, 55);
        Check.due(100, "tongue 1 does not count", () -> hub.price(0, 2));
        Hubs.tell(hub, 0, 0, 2, 0, 66);
        Check.due(66, "tongue 0 does", () -> hub.price(0, 2));
        Check.due(100, "another shop", () -> hub.price(0, 1));
        hub.setDiscount(0, 50);
        Check.due(66, "the discount is not for a value", () -> hub.price(0, 2));
        hub.addPart(2, 0, 3);
        Hubs.tell(hub, 2, 0, 1, -1, 0);
        Check.due(0, "a value 0 is ahead of the parts", () -> hub.price(2, 1));
        Check.due(198, "the parts, where there is no value", () -> hub.price(2, 2));
        Hubs.tell(hub, 2, 0, 2, -1, -1);
        Check.due(198, "the parts, where it is told empty", () -> hub.price(2, 2));
        Hubs.tell(hub, 1, 1, -1, -1, 5);
        Hubs.tell(hub, 1, 0, 0, 0, -1);
        Check.illegalState("told empty, no parts", () -> hub.price(1, 0));
    }

    private static void priceOfParts() {
        Check.promise("promise 17");
        ShopHub hub = Hubs.of(-1, -1, -1, -1);
        Hubs.tell(hub, 0, 0, -1, -1, 7);
        Hubs.tell(hub, 1, 0, -1, -1, 11);
        hub.addPart(2, 0, 2);
        hub.addPart(2, 1, 3);
        Check.due(47, "2 * 7 + 3 * 11", () -> hub.price(2, 0));
        hub.addPart(3, 2, 4);
        hub.addPart(3, 0, 1);
        Check.due(195, "4 * 47 + 7", () -> hub.price(3, 0));
        hub.addPart(2, 0, 1);
        Check.due(223, "4 * 54 + 7", () -> hub.price(3, 0));
        hub.setDiscount(2, 100);
        Check.due(0, "discount 100", () -> hub.price(2, 0));
        Check.due(7, "4 * 0 + 7", () -> hub.price(3, 0));
        Hubs.tell(hub, 0, 0, 1, -1, 8);
        Check.due(8, "by shop", () -> hub.price(3, 1));
        Check.due(7, "another shop", () -> hub.price(3, 2));
    }

    private static void priceIsRoundedDown() {
        Check.promise("promise 17");
        ShopHub hub = Hubs.of(-1, -1, -1);
        Hubs.tell(hub, 0, 0, -1, -1, 33);
        hub.addPart(1, 0, 3);
        hub.setDiscount(1, 1);
        Check.due(98, "99 * 99 / 100", () -> hub.price(1, 0));
        hub.setDiscount(1, 99);
        Check.due(0, "99 * 1 / 100", () -> hub.price(1, 0));
        hub.setDiscount(1, 50);
        hub.addPart(2, 1, 3);
        Check.due(147, "3 * 49, rounded at the part already", () -> hub.price(2, 0));
        hub.setDiscount(2, 10);
        Check.due(132, "147 * 90 / 100", () -> hub.price(2, 0));
    }

    private static void priceNeedsAllParts() {
        Check.promise("promise 17");
        ShopHub hub = Hubs.of(-1, -1, -1);
        Check.illegalState("no value and no parts", () -> hub.price(2, 0));
        hub.addPart(2, 0, 1);
        hub.addPart(2, 1, 1);
        Hubs.tell(hub, 0, 0, -1, -1, 5);
        Check.illegalState("a part without a price", () -> hub.price(2, 0));
        hub.setDiscount(2, 100);
        Check.illegalState("a part without a price, discount 100", () -> hub.price(2, 0));
        hub.setDiscount(2, 0);
        Hubs.tell(hub, 1, 0, 1, 0, 6);
        Check.due(11, "the shop in which all have prices", () -> hub.price(2, 1));
        Check.illegalState("another shop", () -> hub.price(2, 0));
        hub.setDiscount(0, 10);
        Hubs.tell(hub, 1, 0, -1, -1, 0);
        Check.due(5, "a price 0 is a price", () -> hub.price(2, 0));
    }

    private static void priceLimit() {
        Check.promise("promise 17");
        ShopHub hub = Hubs.tower();
        Check.due(40000000, "40 million", () -> hub.price(2, 0));
        Check.due(800000000, "800 million", () -> hub.price(3, 0));
        hub.addPart(3, 1, 20);
        hub.addPart(3, 0, 20);
        Check.due(842000000, "842 million", () -> hub.price(3, 0));
        hub.addPart(4, 3, 1);
        hub.addPart(4, 2, 3);
        hub.addPart(4, 1, 19);
        Check.due(1000000000, "1000 million", () -> hub.price(4, 0));
        Hubs.tell(hub, 5, 0, -1, -1, 1);
        hub.addPart(6, 4, 1);
        hub.addPart(6, 5, 1);
        Check.illegalState("1000 million and 1", () -> hub.price(6, 0));
        hub.setDiscount(6, 1);
        Check.due(990000000, "the discount goes ahead of the limit", () -> hub.price(6, 0));
        hub.addPart(4, 0, 1);
        Check.illegalState("a part above the limit", () -> hub.price(4, 0));
        Check.illegalState("a price that counts is above the limit", () -> hub.price(6, 0));
        hub.setDiscount(6, 100);
        Check.illegalState("it counts, whatever the discount behind it", () -> hub.price(6, 0));
        Hubs.tell(hub, 4, 0, 0, -1, 3);
        Check.due(0, "a part that is told a price does not count its parts", () -> hub.price(6, 0));
        Hubs.tell(hub, 6, 0, 1, -1, 4);
        Check.due(4, "a good that is told a price does not count its parts", () -> hub.price(6, 1));
        ShopHub high = Hubs.tower();
        high.addPart(4, 3, 20);
        high.setDiscount(4, 95);
        Check.due(800000000, "16000 million before the discount", () -> high.price(4, 0));
        high.setDiscount(4, 93);
        Check.illegalState("1120 million behind the discount", () -> high.price(4, 0));
    }

    private static void priceRefuses() {
        Check.promise("promise 17");
        ShopHub hub = Hubs.of(-1, -1);
        hub.delete(1);
        Check.indexOut("good -1", () -> hub.price(-1, 0));
        Check.indexOut("good 2", () -> hub.price(2, 0));
        Check.indexOut("good 16", () -> hub.price(16, 0));
        Check.indexOut("good MAX", () -> hub.price(MAX, 0));
        Check.indexOut("a deleted good", () -> hub.price(1, 0));
        Check.indexOut("shop -1", () -> hub.price(0, -1));
        Check.indexOut("shop 3", () -> hub.price(0, 3));
        Check.illegalState("no price", () -> hub.price(0, 0));
    }
}
