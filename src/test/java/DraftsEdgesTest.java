/** Promises 7 to 10, sentence by sentence: what stands just inside and just outside of it. */
public final class DraftsEdgesTest {
    private static final Refusals EMPTY = new Refusals(ShopHub::new);
    private static final Refusals BUSY = new Refusals(Hubs::busy);
    private static final Refusals FULL = new Refusals(Hubs::full);

    public static void main(String[] args) {
        draft();
        draftGood();
        draftAttribute();
        draftShop();
        draftTongue();
        draftValue();
        draftDay();
        draftReturns();
        draftThrowsIndex();
        draftThrowsIndexFirst();
        draftThrowsArgument();
        draftThrowsState();
        approve();
        approveDraft();
        approveReturns();
        approveReturnsByDay();
        approveThrowsIndex();
        approveThrowsState();
        reject();
        rejectDraft();
        rejectReturns();
        rejectThrowsIndex();
        rejectThrowsState();
        pass();
        passDays();
        passReturns();
        passThrowsArgument();
        Check.end();
    }

    private static void draft() {
        Check.sentence("promise 7", "Enters a draft.");
        ShopHub hub = Hubs.of(-1);
        Check.indexOut("approve ahead of it", () -> hub.approve(0));
        hub.draft(0, 0, 0, 0, 5, 0);
        Check.due(0, "it does not hold yet", () -> hub.told(0));
        Check.illegalState("it tells no value yet", () -> hub.value(0, 0, 0, 0));
        Check.due(0, "it is not seen yet", () -> hub.changed(0));
        Check.indexOut("one draft is entered, not two", () -> hub.approve(1));
        Check.due(true, "approve behind it", () -> hub.approve(0));
    }

    private static void draftGood() {
        Check.sentence("promise 7", "- `good`: a good");
        ShopHub busy = Hubs.busy();
        busy.approve(busy.draft(0, 5, -1, -1, 61, 0));
        busy.approve(busy.draft(7, 5, -1, -1, 62, 0));
        Check.due(61, "the least", () -> busy.value(0, 5, 0, 0));
        Check.due(62, "the greatest that is there", () -> busy.value(7, 5, 0, 0));
        ShopHub hub = new ShopHub();
        for (int good = 0; good < 16; good++) {
            hub.addGood(-1);
        }
        hub.approve(hub.draft(15, 5, -1, -1, 63, 0));
        Check.due(63, "the greatest there can be", () -> hub.value(15, 5, 2, 2));
        Check.due(0, "not the one before it", () -> hub.told(14));
    }

    private static void draftAttribute() {
        Check.sentence("promise 7", "- `attribute`: 0 to 5");
        ShopHub hub = Hubs.of(-1);
        hub.approve(hub.draft(0, 0, -1, -1, 70, 0));
        hub.approve(hub.draft(0, 5, -1, -1, 75, 0));
        Check.due(70, "the least", () -> hub.value(0, 0, 0, 0));
        Check.due(75, "the greatest", () -> hub.value(0, 5, 0, 0));
        Check.illegalState("the one between", () -> hub.value(0, 1, 0, 0));
        Check.illegalState("the one between", () -> hub.value(0, 4, 0, 0));
    }

    private static void draftShop() {
        Check.sentence("promise 7", "- `shop`: 0 to 2, or -1 for all shops");
        ShopHub hub = Hubs.of(-1);
        hub.approve(hub.draft(0, 1, 0, -1, 80, 0));
        hub.approve(hub.draft(0, 1, 2, -1, 82, 0));
        Check.due(80, "the least", () -> hub.value(0, 1, 0, 0));
        Check.due(82, "the greatest", () -> hub.value(0, 1, 2, 0));
        Check.illegalState("the one between", () -> hub.value(0, 1, 1, 0));
        hub.approve(hub.draft(0, 1, -1, -1, 83, 0));
        Check.due(83, "all shops", () -> hub.value(0, 1, 1, 0));
        Check.due(3, "all shops are a place of their own", () -> hub.told(0));
    }

    private static void draftTongue() {
        Check.sentence("promise 7", "- `tongue`: 0 to 2, or -1 for all tongues");
        ShopHub hub = Hubs.of(-1);
        hub.approve(hub.draft(0, 1, -1, 0, 90, 0));
        hub.approve(hub.draft(0, 1, -1, 2, 92, 0));
        Check.due(90, "the least", () -> hub.value(0, 1, 0, 0));
        Check.due(92, "the greatest", () -> hub.value(0, 1, 0, 2));
        Check.illegalState("the one between", () -> hub.value(0, 1, 0, 1));
        hub.approve(hub.draft(0, 1, -1, -1, 93, 0));
        Check.due(93, "all tongues", () -> hub.value(0, 1, 0, 1));
        Check.due(3, "all tongues are a place of their own", () -> hub.told(0));
    }

    private static void draftValue() {
        Check.sentence("promise 7", "- `value`: 0 to 100000, or -1 to tell that there is none");
        for (int value : new int[] {0, 1, 99999, 100000}) {
            ShopHub hub = Hubs.of(-1);
            hub.approve(hub.draft(0, 0, 0, 0, value, 0));
            Check.due(value, "value " + value, () -> hub.value(0, 0, 0, 0));
            Check.due(value, "price " + value, () -> hub.price(0, 0));
        }
        ShopHub hub = Hubs.of(-1);
        hub.approve(hub.draft(0, 0, 0, 0, -1, 0));
        Check.illegalState("there is none", () -> hub.value(0, 0, 0, 0));
        Check.due(0, "the origin is the draft that tells it", () -> hub.origin(0, 0, 0, 0));
        Check.due(1, "its place is told", () -> hub.told(0));
    }

    private static void draftDay() {
        Check.sentence("promise 7", "- `day`: 0 to 1000");
        Check.due(true, "the least", () -> {
            ShopHub hub = Hubs.of(-1);
            return hub.approve(hub.draft(0, 0, 0, 0, 1, 0));
        });
        ShopHub hub = Hubs.of(-1);
        Check.due(false, "the greatest, today is day 0", () -> hub.approve(hub.draft(0, 0, 0, 0, 1, 1000)));
        for (int turn = 0; turn < 9; turn++) {
            hub.pass(100);
        }
        hub.pass(99);
        Check.due(0, "on day 999", () -> hub.told(0));
        hub.pass(1);
        Check.due(1, "on day 1000", () -> hub.told(0));
        hub.pass(100);
        Check.due(1, "on day 1100", () -> hub.told(0));
        Check.due(0, "a day that is past takes over nothing", () -> {
            hub.approve(hub.draft(0, 0, 0, 0, 2, 999));
            return hub.origin(0, 0, 0, 0);
        });
    }

    private static void draftReturns() {
        Check.sentence("promise 7", "Returns number of the draft.");
        ShopHub hub = Hubs.of(-1, -1);
        Check.due(0, "the first", () -> hub.draft(1, 0, 0, 0, 1, 0));
        Check.due(1, "the second, for another good", () -> hub.draft(0, 0, 0, 0, 1, 0));
        hub.reject(1);
        hub.delete(1);
        Check.due(2, "with one rejected and one deleted", () -> hub.draft(0, 0, 0, 0, 1, 0));
        for (int draft = 3; draft < 199; draft++) {
            hub.draft(0, 0, 0, 0, 1, 0);
        }
        Check.due(199, "the last", () -> hub.draft(0, 0, 0, 0, 7, 0));
        hub.approve(199);
        Check.due(199, "the last as an origin", () -> hub.origin(0, 0, 0, 0));
    }

    private static void draftThrowsIndex() {
        Check.sentence("promise 7", "Throws `IndexOutOfBoundsException` if there is no such good, attribute,"
                + " shop or tongue");
        for (int good : Wrong.GOODS) {
            BUSY.index("draft for good " + good, hub -> hub.draft(good, 0, 0, 0, 0, 0));
        }
        for (int attribute : Wrong.ATTRIBUTES) {
            BUSY.index("draft for attribute " + attribute, hub -> hub.draft(7, attribute, 0, 0, 0, 0));
        }
        for (int shop : Wrong.SHOPS_OR_ALL) {
            BUSY.index("draft for shop " + shop, hub -> hub.draft(7, 0, shop, 0, 0, 0));
        }
        for (int tongue : Wrong.TONGUES_OR_ALL) {
            BUSY.index("draft for tongue " + tongue, hub -> hub.draft(7, 0, 0, tongue, 0, 0));
        }
        EMPTY.index("draft without goods", hub -> hub.draft(0, 0, -1, -1, 0, 0));
    }

    private static void draftThrowsIndexFirst() {
        Check.sentence("promise 7", "Throws `IndexOutOfBoundsException` if there is no such good, attribute,"
                + " shop or tongue");
        BUSY.index("no good and a wrong value", hub -> hub.draft(8, 0, 0, 0, -2, 0));
        BUSY.index("a deleted good and a wrong day", hub -> hub.draft(6, 0, 0, 0, 0, -1));
        BUSY.index("no attribute and a wrong value", hub -> hub.draft(0, 6, 0, 0, 100001, 0));
        BUSY.index("no shop and a wrong day", hub -> hub.draft(0, 0, 3, 0, 0, 1001));
        BUSY.index("no tongue and a wrong value and day", hub -> hub.draft(0, 0, 0, 3, -2, -1));
        FULL.index("no good, with 200 drafts there", hub -> hub.draft(16, 0, 0, 0, 0, 0));
        FULL.index("no attribute, with 200 drafts there", hub -> hub.draft(0, -1, 0, 0, 0, 0));
        FULL.index("no shop, with 200 drafts there", hub -> hub.draft(0, 0, -2, 0, 0, 0));
        FULL.index("no tongue, a wrong value, with 200 drafts there", hub -> hub.draft(0, 0, 0, -2, -2, 0));
    }

    private static void draftThrowsArgument() {
        Check.sentence("promise 7", "Throws `IllegalArgumentException` if value or day is out of range");
        for (int value : Wrong.VALUES) {
            BUSY.argument("draft with value " + value, hub -> hub.draft(0, 0, 0, 0, value, 0));
            FULL.argument("draft with value " + value + ", with 200 there", hub -> hub.draft(0, 0, 0, 0, value, 0));
        }
        for (int day : Wrong.DAYS) {
            BUSY.argument("draft for day " + day, hub -> hub.draft(0, 0, -1, -1, -1, day));
            FULL.argument("draft for day " + day + ", with 200 there", hub -> hub.draft(0, 0, 0, 0, 0, day));
        }
    }

    private static void draftThrowsState() {
        Check.sentence("promise 7", "Throws `IllegalStateException` if there have been 200 drafts");
        FULL.state("the 201st", hub -> hub.draft(0, 0, 0, 0, 0, 0));
        FULL.state("the 201st, empty", hub -> hub.draft(15, 5, -1, -1, -1, 1000));
        ShopHub hub = Hubs.full();
        hub.reject(0);
        hub.delete(15);
        Check.illegalState("with one rejected and some deleted", () -> hub.draft(0, 0, 0, 0, 0, 0));
    }

    private static void approve() {
        Check.sentence("promise 8", "Approves a draft.");
        ShopHub hub = Hubs.busy();
        Check.illegalState("its value ahead of it", () -> hub.value(0, 2, 2, 2));
        hub.approve(7);
        Check.due(8, "its value behind it", () -> hub.value(0, 2, 2, 2));
        Check.due(8, "its value in a good below", () -> hub.value(2, 2, 2, 2));
        Check.illegalState("not for another tongue", () -> hub.value(0, 2, 2, 1));
        Check.illegalState("not for another shop", () -> hub.value(0, 2, 1, 2));
    }

    private static void approveDraft() {
        Check.sentence("promise 8", "- `draft`: a draft");
        ShopHub hub = Hubs.of(-1);
        for (int draft = 0; draft < 200; draft++) {
            hub.draft(0, draft % 6, -1, -1, draft, 0);
        }
        Check.due(true, "the least", () -> hub.approve(0));
        Check.due(true, "the greatest", () -> hub.approve(199));
        Check.due(2, "both hold", () -> hub.told(0));
    }

    private static void approveReturns() {
        Check.sentence("promise 8", "Returns true if it holds at its place then.");
        ShopHub hub = Hubs.of(-1);
        hub.draft(0, 1, 0, 0, 50, 0);
        hub.draft(0, 1, 0, 0, 51, 0);
        hub.draft(0, 1, 0, 0, -1, 0);
        hub.draft(0, 1, -1, -1, 53, 0);
        Check.due(true, "none holds there yet", () -> hub.approve(1));
        Check.due(false, "one with the same day and a higher number holds", () -> hub.approve(0));
        Check.due(true, "an empty one with the highest number", () -> hub.approve(2));
        Check.due(true, "a wider place is another one", () -> hub.approve(3));
        hub.reject(2);
        hub.reject(1);
        Check.due(50, "the first one waited behind them", () -> hub.value(0, 1, 0, 0));
    }

    private static void approveReturnsByDay() {
        Check.sentence("promise 8", "Returns true if it holds at its place then.");
        ShopHub hub = Hubs.of(-1);
        for (int day = 0; day < 5; day++) {
            hub.draft(0, 1, 0, 0, day, day);
        }
        hub.draft(0, 1, 0, 0, 5, 1);
        hub.pass(3);
        Check.due(false, "tomorrow's", () -> hub.approve(4));
        Check.due(true, "a day before yesterday's", () -> hub.approve(1));
        Check.due(true, "its day again, with a higher number", () -> hub.approve(5));
        Check.due(true, "today's", () -> hub.approve(3));
        Check.due(false, "yesterday's behind today's", () -> hub.approve(2));
        Check.due(3, "today's holds", () -> hub.value(0, 1, 0, 0));
        hub.pass(1);
        Check.due(4, "tomorrow's holds then", () -> hub.value(0, 1, 0, 0));
    }

    private static void approveThrowsIndex() {
        Check.sentence("promise 8", "Throws `IndexOutOfBoundsException` if there is no such draft,"
                + " or its good was deleted");
        for (int draft : Wrong.DRAFTS) {
            BUSY.index("approve(" + draft + ")", hub -> hub.approve(draft));
        }
        FULL.index("approve(200)", hub -> hub.approve(200));
        FULL.index("approve(-1)", hub -> hub.approve(-1));
        Refusals gone = new Refusals(DraftsEdgesTest::hubWithoutItsGood);
        gone.index("its good was deleted, and it was approved", hub -> hub.approve(0));
        gone.index("its good was deleted, and it was rejected", hub -> hub.approve(1));
        gone.index("its good was deleted, and it was open", hub -> hub.approve(2));
    }

    /** Drafts 0, 1 and 2 were approved, rejected and open, when their good was deleted. */
    private static ShopHub hubWithoutItsGood() {
        ShopHub hub = Hubs.of(-1, -1);
        Hubs.tell(hub, 0, 1, 0, 0, 5);
        hub.reject(hub.draft(0, 1, 0, 0, 5, 0));
        hub.draft(0, 1, 0, 0, 5, 0);
        hub.delete(0);
        return hub;
    }

    private static void approveThrowsState() {
        Check.sentence("promise 8", "Throws `IllegalStateException` if it is not open");
        BUSY.state("approve(0), which holds", hub -> hub.approve(0));
        BUSY.state("approve(1), which is behind another one", hub -> hub.approve(1));
        BUSY.state("approve(6), which waits for its day", hub -> hub.approve(6));
        BUSY.state("approve(8), which is rejected", hub -> hub.approve(8));
        FULL.state("approve(198), which is approved", hub -> hub.approve(198));
        ShopHub hub = Hubs.busy();
        hub.reject(0);
        Check.illegalState("approved, then rejected", () -> hub.approve(0));
    }

    private static void reject() {
        Check.sentence("promise 9", "Rejects a draft that is open or approved.");
        ShopHub hub = Hubs.busy();
        hub.reject(7);
        Check.illegalState("an open one can't be approved any more", () -> hub.approve(7));
        hub.reject(2);
        Check.due(300, "behind an approved one, the one before holds", () -> hub.value(0, 0, 1, 0));
        hub.reject(6);
        hub.pass(2);
        Check.illegalState("one that waited for its day does not hold then", () -> hub.value(0, 1, 0, 0));
        hub.reject(3);
        Check.due(250, "behind an empty one, the parent's value", () -> hub.value(1, 0, 0, 1));
    }

    private static void rejectDraft() {
        Check.sentence("promise 9", "- `draft`: a draft");
        Check.due(true, "the least", () -> Hubs.busy().reject(0));
        Check.due(true, "the greatest that is there", () -> Hubs.busy().reject(12));
        Check.due(false, "the greatest there can be", () -> Hubs.full().reject(199));
    }

    private static void rejectReturns() {
        Check.sentence("promise 9", "Returns true if it held at its place.");
        Check.due(true, "it held", () -> Hubs.busy().reject(2));
        Check.due(true, "it held, and is empty", () -> Hubs.busy().reject(3));
        Check.due(true, "it held, though closer places have others", () -> Hubs.busy().reject(5));
        Check.due(false, "approved, but another one held", () -> Hubs.busy().reject(1));
        Check.due(false, "approved, but for a day that is to come", () -> Hubs.busy().reject(6));
        Check.due(false, "open", () -> Hubs.busy().reject(7));
        ShopHub hub = Hubs.busy();
        hub.reject(2);
        Check.due(true, "behind a rejection it holds", () -> hub.reject(1));
        hub.pass(1);
        Check.due(false, "on the day before its day", () -> hub.reject(6));
        ShopHub later = Hubs.busy();
        later.pass(2);
        Check.due(true, "on its day", () -> later.reject(6));
    }

    private static void rejectThrowsIndex() {
        Check.sentence("promise 9", "Throws `IndexOutOfBoundsException` if there is no such draft,"
                + " or its good was deleted");
        for (int draft : Wrong.DRAFTS) {
            BUSY.index("reject(" + draft + ")", hub -> hub.reject(draft));
        }
        FULL.index("reject(200)", hub -> hub.reject(200));
        FULL.index("reject(-1)", hub -> hub.reject(-1));
        Refusals gone = new Refusals(DraftsEdgesTest::hubWithoutItsGood);
        gone.index("its good was deleted, and it was approved", hub -> hub.reject(0));
        gone.index("its good was deleted, and it was rejected", hub -> hub.reject(1));
        gone.index("its good was deleted, and it was open", hub -> hub.reject(2));
    }

    private static void rejectThrowsState() {
        Check.sentence("promise 9", "Throws `IllegalStateException` if it is rejected");
        BUSY.state("reject(8), rejected when it was open", hub -> hub.reject(8));
        Refusals rejected = new Refusals(() -> {
            ShopHub hub = Hubs.busy();
            hub.reject(2);
            return hub;
        });
        rejected.state("reject(2), rejected when it held", hub -> hub.reject(2));
    }

    private static void pass() {
        Check.sentence("promise 10", "Lets days pass.");
        ShopHub hub = Hubs.busy();
        hub.pass(1);
        Check.illegalState("day 4", () -> hub.value(0, 1, 0, 0));
        hub.pass(1);
        Check.due(7, "day 5", () -> hub.value(0, 1, 0, 0));
        Check.due(7, "day 5, a good below", () -> hub.value(2, 1, 2, 2));
        hub.pass(1);
        Check.due(7, "day 6", () -> hub.value(0, 1, 0, 0));
    }

    private static void passDays() {
        Check.sentence("promise 10", "- `days`: 1 to 100");
        Check.due(4, "the least", () -> Hubs.busy().pass(1));
        Check.due(103, "the greatest", () -> Hubs.busy().pass(100));
        Check.due(102, "the one next to it", () -> Hubs.busy().pass(99));
    }

    private static void passReturns() {
        Check.sentence("promise 10", "Returns today then.");
        ShopHub hub = new ShopHub();
        Check.due(1, "today was day 0 at first", () -> hub.pass(1));
        Check.due(3, "further on", () -> hub.pass(2));
        for (int turn = 1; turn <= 510; turn++) {
            int today = 3 + turn * 100;
            Check.due(today, "up to the 512th call", () -> hub.pass(100));
        }
    }

    private static void passThrowsArgument() {
        Check.sentence("promise 10", "Throws `IllegalArgumentException` if days is out of range");
        for (int days : Wrong.DAYS_TO_PASS) {
            BUSY.argument("pass(" + days + ")", hub -> hub.pass(days));
            EMPTY.argument("pass(" + days + ") without goods", hub -> hub.pass(days));
        }
    }
}
