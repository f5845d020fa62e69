/** What the document says for all promises, sentence by sentence; prices and feeds have tests of their own. */
public final class TermsEdgesTest {
    private static final int CALLS = 512;
    /** Shops and tongues, for shop 1 and tongue 2, in the order in which they are looked at. */
    private static final int[][] PLACES = {{1, 2}, {1, -1}, {-1, 2}, {-1, -1}};
    private static final Refusals BUSY = new Refusals(Hubs::busy);
    private static final Refusals FULL = new Refusals(Hubs::full);

    public static void main(String[] args) {
        fiveHundredAndTwelveCalls();
        attributesShopsAndTongues();
        goods();
        days();
        parents();
        levels();
        below();
        draftsAtPlaces();
        openAtFirst();
        latestDayHolds();
        highestNumberHolds();
        todayOrEarlier();
        placesInTheirOrder();
        emptyPlacesInTheirOrder();
        firstThatHoldsDecides();
        noneSuch();
        exceptions();
        deletedGoodsDoNotExist();
        orderOfExceptions();
        refusedCallsChangeNothing();
        Check.end();
    }

    private static void fiveHundredAndTwelveCalls() {
        Check.sentence("terms", "An object is used for at most 512 calls after it has been made;"
                + " what later calls answer is free.");
        ShopHub toggled = new ShopHub();
        for (int call = 1; call <= CALLS; call++) {
            boolean asks = call % 2 == 1;
            Check.due(asks, "toggleAsked, call " + call, () -> toggled.toggleAsked(2, 5));
        }
        ShopHub moved = Hubs.of(-1, -1);
        for (int call = 3; call <= CALLS; call++) {
            int parent = call % 2 == 0 ? 0 : -1;
            Check.due(parent, "move, call " + call, () -> moved.move(1, -1 - parent));
        }
        ShopHub refused = new ShopHub();
        for (int call = 1; call < CALLS; call++) {
            Check.indexOut("addGood(0), call " + call, () -> refused.addGood(0));
        }
        Check.due(0, "addGood(-1), call 512", () -> refused.addGood(-1));
        ShopHub decided = Hubs.of(-1);
        for (int draft = 0; draft < 200; draft++) {
            decided.draft(0, draft % 6, -1, -1, draft, 0);
            decided.approve(draft);
        }
        for (int draft = 199; draft > 88; draft--) {
            int d = draft;
            Check.due(true, "reject, call " + (601 - d), () -> decided.reject(d));
        }
    }

    private static void attributesShopsAndTongues() {
        Check.sentence("terms", "Attributes are 0 to 5, of which 0 is the price; shops are 0 to 2, tongues 0 to 2.");
        ShopHub hub = Hubs.of(-1);
        for (int attribute = 5; attribute >= 0; attribute--) {
            int a = attribute;
            Check.illegalState("no price by attributes above 0", () -> hub.price(0, 0));
            for (int shop = 0; shop < 3; shop++) {
                for (int tongue = 0; tongue < 3; tongue++) {
                    Hubs.tell(hub, 0, a, shop, tongue, 100 * a + 10 * shop + tongue);
                }
            }
        }
        for (int entry = 0; entry < 54; entry++) {
            int a = entry / 9;
            int s = entry / 3 % 3;
            int t = entry % 3;
            Check.due(100 * a + 10 * s + t, "each has a value of its own", () -> hub.value(0, a, s, t));
        }
        Check.due(20, "attribute 0 is the price", () -> hub.price(0, 2));
        for (int wrong : new int[] {-1, Integer.MIN_VALUE, Integer.MAX_VALUE}) {
            BUSY.index("attribute " + wrong, hub2 -> hub2.value(0, wrong, 0, 0));
            BUSY.index("shop " + wrong, hub2 -> hub2.value(0, 0, wrong, 0));
            BUSY.index("tongue " + wrong, hub2 -> hub2.value(0, 0, 0, wrong));
        }
        BUSY.index("attribute 6", hub2 -> hub2.value(0, 6, 0, 0));
        BUSY.index("shop 3", hub2 -> hub2.value(0, 0, 3, 0));
        BUSY.index("tongue 3", hub2 -> hub2.value(0, 0, 0, 3));
    }

    private static void goods() {
        Check.sentence("terms", "Goods are numbered from 0; there are at most 16.");
        ShopHub hub = new ShopHub();
        for (int good = 0; good < 16; good++) {
            int g = good;
            Check.indexOut("good " + g + " is not there yet", () -> hub.told(g));
            Check.due(g, "good " + g, () -> hub.addGood(-1));
            Check.due(0, "good " + g + " is there", () -> hub.told(g));
        }
        Check.illegalState("good 16", () -> hub.addGood(-1));
        Check.indexOut("good 16 is not there", () -> hub.told(16));
        Check.due(16, "the goods there are", () -> hub.complete(0));
    }

    private static void days() {
        Check.sentence("terms", "Days are numbered from 0; today is day 0 at first.");
        ShopHub hub = Hubs.of(-1);
        Check.due(true, "a draft for day 0", () -> hub.approve(hub.draft(0, 0, 0, 0, 1, 0)));
        Check.due(false, "a draft for day 1", () -> hub.approve(hub.draft(0, 0, 0, 0, 2, 1)));
        Check.illegalArgument("a draft for day -1", () -> hub.draft(0, 0, 0, 0, 3, -1));
        Check.due(1, "the day behind day 0", () -> hub.pass(1));
        Check.due(2, "the draft for day 1 holds", () -> hub.value(0, 0, 0, 0));
    }

    private static void parents() {
        Check.sentence("terms", "A good has a parent, which is another good, or none.");
        ShopHub hub = Hubs.of(-1, 0);
        Check.due(-1, "none", () -> hub.move(0, -1));
        Check.due(0, "another good", () -> hub.move(1, 0));
        Check.illegalState("the good itself", () -> hub.move(0, 0));
        Check.illegalState("the good itself, a child", () -> hub.move(1, 1));
        Check.indexOut("its own number, when it is added", () -> hub.addGood(2));
    }

    private static void levels() {
        Check.sentence("terms", "It is at level 0 if it has none, otherwise one level deeper than its parent;"
                + " there are the levels 0 to 2.");
        ShopHub hub = Hubs.of(-1, 0, 1);
        Check.illegalState("a good at level 3", () -> hub.addGood(2));
        hub.move(1, -1);
        Check.due(3, "level 2, since its parent was moved to level 0", () -> hub.addGood(2));
        Check.illegalState("level 3", () -> hub.addGood(3));
        Check.illegalState("level 3, by a move of its parent's parent", () -> hub.move(1, 0));
        hub.delete(3);
        Check.due(-1, "when the good at level 2 is deleted, its parent's parent can be moved", () -> hub.move(1, 0));
        Check.illegalState("level 3 again", () -> hub.addGood(2));
    }

    private static void below() {
        Check.sentence("terms", "What is below a good are the goods whose parent it is, and what is below these.");
        ShopHub hub = Hubs.of(-1, 0, 0, 1, 1, -1);
        for (int good = 0; good < 5; good++) {
            int g = good;
            Check.illegalState("good " + g + " is good 0 or below it", () -> hub.move(0, g));
        }
        Check.illegalState("good 3 is below good 1", () -> hub.move(1, 3));
        Check.illegalState("good 4 is below good 1", () -> hub.move(1, 4));
        Check.due(0, "good 5 is not below good 1", () -> hub.move(1, 5));
        Check.due(5, "nor is good 0", () -> hub.move(1, 0));
        hub.move(1, -1);
        Check.due(-1, "good 1 is not below good 0 any more", () -> hub.move(0, 1));
        Check.illegalState("but good 0 is below good 1", () -> hub.move(1, 0));
        Check.illegalState("and good 2 too", () -> hub.move(1, 2));
    }

    private static void draftsAtPlaces() {
        Check.sentence("terms", "A draft is for a good, an attribute, a shop or all shops,"
                + " and a tongue or all tongues (its place); it has a value, or tells that there is none"
                + " (it is empty), and a day.");
        ShopHub hub = Hubs.of(-1, -1);
        Hubs.tell(hub, 0, 1, 1, 1, 5);
        Check.due(1, "a place", () -> hub.told(0));
        Hubs.tell(hub, 0, 1, 1, 1, -1);
        Check.due(1, "the same place, empty", () -> hub.told(0));
        Hubs.tell(hub, 1, 1, 1, 1, 5);
        Check.due(1, "the place of another good", () -> hub.told(0));
        Hubs.tell(hub, 0, 2, 1, 1, 5);
        Check.due(2, "another attribute", () -> hub.told(0));
        Hubs.tell(hub, 0, 1, 2, 1, 5);
        Check.due(3, "another shop", () -> hub.told(0));
        Hubs.tell(hub, 0, 1, -1, 1, 5);
        Check.due(4, "all shops", () -> hub.told(0));
        Hubs.tell(hub, 0, 1, 1, 2, 5);
        Check.due(5, "another tongue", () -> hub.told(0));
        Hubs.tell(hub, 0, 1, 1, -1, 5);
        Check.due(6, "all tongues", () -> hub.told(0));
        Hubs.tellFrom(1, hub, 0, 1, 0, 0, 5);
        Check.due(6, "a day that is to come", () -> hub.told(0));
    }

    private static void openAtFirst() {
        Check.sentence("terms", "It is open at first, and can be approved or rejected.");
        ShopHub hub = Hubs.of(-1);
        hub.draft(0, 1, 0, 0, 5, 0);
        hub.draft(0, 1, 0, 0, 6, 0);
        Check.due(-1, "an open one does not hold", () -> hub.origin(0, 1, 0, 0));
        Check.due(true, "open, approved", () -> hub.approve(0));
        Check.due(false, "open, rejected", () -> hub.reject(1));
        Check.illegalState("rejected, approved", () -> hub.approve(1));
        Check.illegalState("approved, approved again", () -> hub.approve(0));
        Check.due(true, "approved, rejected", () -> hub.reject(0));
        Check.illegalState("rejected, rejected again", () -> hub.reject(0));
        Check.illegalState("approved, rejected, approved again", () -> hub.approve(0));
    }

    private static void nameHolds() {
        Check.sentence("terms", "At a place, that draft holds which is approved, whose day is today or earlier,"
                + " and of several the one with the latest day,"
                + " of several with that the one with the highest number.");
    }

    private static void latestDayHolds() {
        nameHolds();
        ShopHub hub = Hubs.of(-1);
        for (int draft = 0; draft < 6; draft++) {
            hub.draft(0, 0, 0, 0, draft, 6 - draft);
        }
        hub.pass(6);
        for (int draft = 5; draft >= 0; draft--) {
            int d = draft;
            Check.due(true, "a later day, a lower number", () -> hub.approve(d));
            Check.due(d, "its value", () -> hub.value(0, 0, 0, 0));
        }
        for (int draft = 0; draft < 6; draft++) {
            int d = draft;
            Check.due(d, "the latest day that is left", () -> hub.origin(0, 0, 0, 0));
            Check.due(true, "rejected", () -> hub.reject(d));
        }
        Check.due(-1, "none is left", () -> hub.origin(0, 0, 0, 0));
    }

    private static void highestNumberHolds() {
        nameHolds();
        ShopHub hub = Hubs.of(-1);
        for (int draft = 0; draft < 6; draft++) {
            hub.draft(0, 0, -1, 2, draft, 4);
        }
        hub.pass(5);
        Check.due(true, "the first", () -> hub.approve(3));
        Check.due(false, "a lower number", () -> hub.approve(2));
        Check.due(true, "the highest number", () -> hub.approve(5));
        Check.due(false, "one between", () -> hub.approve(4));
        Check.due(5, "the highest number holds", () -> hub.origin(0, 0, 1, 2));
        hub.reject(5);
        Check.due(4, "then the next one, though it was approved last", () -> hub.origin(0, 0, 1, 2));
        Check.due(false, "one behind it does not hold", () -> hub.reject(2));
        hub.reject(4);
        Check.due(3, "then the one that is left", () -> hub.origin(0, 0, 1, 2));
    }

    private static void todayOrEarlier() {
        nameHolds();
        ShopHub hub = Hubs.of(-1);
        Hubs.tellFrom(0, hub, 0, 0, 0, 0, 10);
        Hubs.tellFrom(2, hub, 0, 0, 0, 0, 12);
        Hubs.tellFrom(100, hub, 0, 0, 0, 0, -1);
        hub.draft(0, 0, 0, 0, 13, 1);
        hub.reject(hub.draft(0, 0, 0, 0, 14, 1));
        Check.due(10, "day 0", () -> hub.value(0, 0, 0, 0));
        hub.pass(1);
        Check.due(10, "day 1: open and rejected ones do not hold", () -> hub.value(0, 0, 0, 0));
        hub.pass(1);
        Check.due(12, "day 2: today", () -> hub.value(0, 0, 0, 0));
        hub.pass(97);
        Check.due(12, "day 99: earlier", () -> hub.value(0, 0, 0, 0));
        hub.pass(1);
        Check.illegalState("day 100: an empty one holds", () -> hub.value(0, 0, 0, 0));
        Check.due(2, "day 100: its number", () -> hub.origin(0, 0, 0, 0));
    }

    private static void nameOrder() {
        Check.sentence("terms", "For a good, an attribute, a shop and a tongue it is looked at these places,"
                + " one behind the other: this shop and this tongue, this shop and all tongues,"
                + " all shops and this tongue, all shops and all tongues;"
                + " then at the same places of its parent, and so on.");
    }

    /** Good 2 is below 1, which is below 0; draft d is at the place that is looked at behind d others. */
    private static ShopHub hubWithTwelvePlaces(int value) {
        ShopHub hub = Hubs.of(-1, 0, 1);
        for (int level = 2; level >= 0; level--) {
            for (int[] place : PLACES) {
                Hubs.tell(hub, level, 4, place[0], place[1], value);
            }
        }
        return hub;
    }

    private static void placesInTheirOrder() {
        nameOrder();
        ShopHub hub = hubWithTwelvePlaces(7);
        for (int draft = 0; draft < 12; draft++) {
            int d = draft;
            Check.due(d, "good 2", () -> hub.origin(2, 4, 1, 2));
            Check.due(Math.max(4, d), "good 1", () -> hub.origin(1, 4, 1, 2));
            Check.due(Math.max(8, d), "good 0", () -> hub.origin(0, 4, 1, 2));
            hub.reject(d);
        }
        Check.due(-1, "none is left", () -> hub.origin(2, 4, 1, 2));
        ShopHub other = hubWithTwelvePlaces(7);
        Check.due(1, "another tongue: this shop and all tongues", () -> other.origin(2, 4, 1, 0));
        Check.due(2, "another shop: all shops and this tongue", () -> other.origin(2, 4, 0, 2));
        Check.due(3, "another shop and tongue: all and all", () -> other.origin(2, 4, 2, 1));
        Check.due(-1, "another attribute", () -> other.origin(2, 3, 1, 2));
    }

    private static void emptyPlacesInTheirOrder() {
        nameOrder();
        for (int draft = 0; draft < 12; draft++) {
            ShopHub hub = hubWithTwelvePlaces(-1);
            int level = 2 - draft / 4;
            int[] place = PLACES[draft % 4];
            int d = draft;
            Hubs.tell(hub, level, 4, place[0], place[1], 50);
            for (int before = 0; before < draft; before++) {
                Check.illegalState("an empty place is ahead", () -> hub.value(2, 4, 1, 2));
                hub.reject(before);
            }
            Check.due(50, "place " + d, () -> hub.value(2, 4, 1, 2));
            Check.due(12, "place " + d, () -> hub.origin(2, 4, 1, 2));
        }
    }

    private static void firstThatHoldsDecides() {
        Check.sentence("terms", "The first draft that holds at one of these places decides: it is the origin,"
                + " and tells the value, or, if it is empty, that there is none.");
        ShopHub hub = Hubs.of(-1, 0);
        Hubs.tell(hub, 0, 2, -1, -1, 20);
        Hubs.tell(hub, 1, 2, -1, -1, -1);
        Hubs.tell(hub, 1, 2, 0, -1, 0);
        Check.due(0, "value 0 is told", () -> hub.value(1, 2, 0, 1));
        Check.due(2, "by its origin", () -> hub.origin(1, 2, 0, 1));
        Check.illegalState("none is told, though the parent has a value", () -> hub.value(1, 2, 1, 1));
        Check.due(1, "by its origin", () -> hub.origin(1, 2, 1, 1));
        Check.due(20, "the parent's stays", () -> hub.value(0, 2, 1, 1));
    }

    private static void noneSuch() {
        Check.sentence("terms", "If there is none such, there is no value and no origin.");
        ShopHub hub = Hubs.of(-1, 0, -1);
        hub.draft(0, 2, -1, -1, 20, 0);
        hub.reject(hub.draft(0, 2, -1, -1, 20, 0));
        Hubs.tellFrom(1, hub, 0, 2, -1, -1, 20);
        Hubs.tell(hub, 2, 2, -1, -1, 20);
        Hubs.tell(hub, 1, 2, 0, 0, 20);
        Hubs.tell(hub, 1, 1, -1, -1, 20);
        Check.illegalState("open, rejected, to come, or elsewhere: no value", () -> hub.value(0, 2, 1, 1));
        Check.due(-1, "no origin", () -> hub.origin(0, 2, 1, 1));
        Check.illegalState("no value in the good below", () -> hub.value(1, 2, 1, 1));
        Check.due(-1, "no origin in the good below", () -> hub.origin(1, 2, 1, 1));
    }

    private static void nameExceptions() {
        Check.sentence("terms", "IndexOutOfBoundsException is thrown for a good, attribute, shop, tongue or draft"
                + " that does not exist (a good that was deleted does not exist any more),"
                + " IllegalArgumentException for another argument out of range,"
                + " and IllegalStateException if a call is not possible now.");
    }

    private static void exceptions() {
        nameExceptions();
        BUSY.index("a good", hub -> hub.told(8));
        BUSY.index("an attribute", hub -> hub.toggleAsked(0, 6));
        BUSY.index("a shop", hub -> hub.toggleAsked(3, 0));
        BUSY.index("a tongue", hub -> hub.missing(0, 0, 3));
        BUSY.index("a draft", hub -> hub.approve(13));
        BUSY.argument("a quantity", hub -> hub.addPart(7, 0, 21));
        BUSY.argument("a discount", hub -> hub.setDiscount(7, 101));
        BUSY.argument("a value", hub -> hub.draft(7, 0, 0, 0, 100001, 0));
        BUSY.argument("a day", hub -> hub.draft(7, 0, 0, 0, 0, 1001));
        BUSY.argument("days", hub -> hub.pass(101));
        BUSY.state("not possible now", hub -> hub.delete(0));
    }

    private static void deletedGoodsDoNotExist() {
        nameExceptions();
        BUSY.index("addGood", hub -> hub.addGood(6));
        BUSY.index("move", hub -> hub.move(6, -1));
        BUSY.index("move to it", hub -> hub.move(7, 6));
        BUSY.index("delete", hub -> hub.delete(6));
        BUSY.index("addPart", hub -> hub.addPart(6, 5, 1));
        BUSY.index("addPart of it", hub -> hub.addPart(7, 6, 1));
        BUSY.index("setDiscount", hub -> hub.setDiscount(6, 0));
        BUSY.index("draft", hub -> hub.draft(6, 1, -1, -1, 1, 0));
        BUSY.index("approve", hub -> hub.approve(10));
        BUSY.index("reject", hub -> hub.reject(9));
        BUSY.index("value", hub -> hub.value(6, 1, 0, 0));
        BUSY.index("origin", hub -> hub.origin(6, 1, 0, 0));
        BUSY.index("told", hub -> hub.told(6));
        BUSY.index("missing", hub -> hub.missing(6, 0, 0));
        BUSY.index("price", hub -> hub.price(6, 0));
        Check.due(7, "complete counts the others", () -> Hubs.busy().complete(1));
    }

    private static void orderOfExceptions() {
        Check.sentence("terms", "If several apply, IndexOutOfBoundsException goes first,"
                + " then IllegalArgumentException.");
        FULL.index("addGood: no parent, 16 goods", hub -> hub.addGood(16));
        BUSY.index("move: no good, below itself", hub -> hub.move(8, 8));
        BUSY.index("addPart: no good, quantity", hub -> hub.addPart(8, 0, 0));
        BUSY.index("addPart: no part, not lower, quantity", hub -> hub.addPart(0, 8, 0));
        BUSY.argument("addPart: quantity, more than 20", hub -> hub.addPart(4, 3, 21));
        BUSY.index("setDiscount: no good, discount", hub -> hub.setDiscount(8, 101));
        FULL.index("draft: no tongue, value, day, 200 drafts", hub -> hub.draft(0, 0, 0, 3, -2, -1));
        FULL.argument("draft: value, 200 drafts", hub -> hub.draft(0, 0, 0, 0, -2, 0));
        FULL.argument("draft: day, 200 drafts", hub -> hub.draft(0, 0, 0, 0, 0, 1001));
        BUSY.index("approve: its good was deleted, not open", hub -> hub.approve(9));
        BUSY.index("value: no shop, no value", hub -> hub.value(7, 0, 3, 0));
        BUSY.index("price: no shop, no price", hub -> hub.price(7, 3));
    }

    private static void refusedCallsChangeNothing() {
        Check.sentence("terms", "A call that throws an exception changes nothing.");
        BUSY.state("many refused calls, one behind the other", TermsEdgesTest::refuseManyCalls);
        FULL.state("many refused calls, one behind the other", hub -> {
            Check.illegalState("addGood", () -> hub.addGood(0));
            Check.illegalState("move", () -> hub.move(0, 2));
            Check.illegalState("delete", () -> hub.delete(14));
            Check.illegalState("addPart", () -> hub.addPart(15, 14, 1));
            Check.illegalState("approve", () -> hub.approve(0));
            hub.draft(0, 0, 0, 0, 0, 0);
        });
    }

    private static void refuseManyCalls(ShopHub hub) {
        for (int turn = 0; turn < 3; turn++) {
            Check.illegalState("addGood", () -> hub.addGood(2));
            Check.illegalState("move", () -> hub.move(0, 7));
            Check.illegalState("delete", () -> hub.delete(0));
            Check.illegalState("addPart", () -> hub.addPart(4, 0, 19));
            Check.illegalArgument("setDiscount", () -> hub.setDiscount(4, 101));
            Check.illegalArgument("draft", () -> hub.draft(0, 0, 0, 0, 0, 1001));
            Check.illegalState("approve", () -> hub.approve(8));
            Check.illegalState("reject", () -> hub.reject(8));
            Check.illegalArgument("pass", () -> hub.pass(101));
            Check.illegalState("value", () -> hub.value(7, 0, 0, 0));
            Check.indexOut("origin", () -> hub.origin(0, 0, 0, 3));
            Check.indexOut("told", () -> hub.told(6));
            Check.indexOut("toggleAsked", () -> hub.toggleAsked(0, 6));
            Check.indexOut("missing", () -> hub.missing(0, 0, 3));
            Check.indexOut("complete", () -> hub.complete(3));
            Check.indexOut("changed", () -> hub.changed(-1));
            Check.indexOut("feed", () -> hub.feed(3));
        }
        hub.price(7, 0);
    }
}
