/** Promises 7 to 10: draft, approve, reject, pass. */
public final class DraftsTest {
    private static final int MAX = Integer.MAX_VALUE;
    private static final int MIN = Integer.MIN_VALUE;

    public static void main(String[] args) {
        draft();
        draftRefusesIndexes();
        draftRefusesRanges();
        draftOrderOfExceptions();
        twoHundredDrafts();
        approve();
        approveRefuses();
        latestDayHolds();
        reject();
        rejectRefuses();
        pass();
        Check.end();
    }

    private static ShopHub hubWithGoods(int goods) {
        ShopHub hub = new ShopHub();
        for (int good = 0; good < goods; good++) {
            hub.addGood(-1);
        }
        return hub;
    }

    private static void draft() {
        Check.promise("promise 7");
        ShopHub hub = hubWithGoods(2);
        Check.due(0, "the lowest", () -> hub.draft(0, 0, -1, -1, -1, 0));
        Check.due(1, "the highest", () -> hub.draft(1, 5, 2, 2, 100000, 1000));
        Check.due(2, "value 0", () -> hub.draft(0, 0, 0, 0, 0, 0));
        Check.due(3, "the same again", () -> hub.draft(0, 0, 0, 0, 0, 0));
        Check.due(0, "an open draft does not hold", () -> hub.told(0));
        Check.due(-1, "an open draft is no origin", () -> hub.origin(0, 0, 0, 0));
        Check.due(true, "a draft can be for a day that is past", () -> {
            ShopHub later = hubWithGoods(1);
            later.pass(10);
            later.draft(0, 0, 0, 0, 0, 9);
            return later.approve(0);
        });
    }

    private static void draftRefusesIndexes() {
        Check.promise("promise 7");
        ShopHub hub = hubWithGoods(2);
        hub.delete(1);
        Check.indexOut("good 2", () -> hub.draft(2, 0, 0, 0, 0, 0));
        Check.indexOut("good -1", () -> hub.draft(-1, 0, 0, 0, 0, 0));
        Check.indexOut("good MAX", () -> hub.draft(MAX, 0, 0, 0, 0, 0));
        Check.indexOut("a deleted good", () -> hub.draft(1, 0, 0, 0, 0, 0));
        Check.indexOut("attribute 6", () -> hub.draft(0, 6, 0, 0, 0, 0));
        Check.indexOut("attribute -1", () -> hub.draft(0, -1, 0, 0, 0, 0));
        Check.indexOut("shop 3", () -> hub.draft(0, 0, 3, 0, 0, 0));
        Check.indexOut("shop -2", () -> hub.draft(0, 0, -2, 0, 0, 0));
        Check.indexOut("shop MIN", () -> hub.draft(0, 0, MIN, 0, 0, 0));
        Check.indexOut("tongue 3", () -> hub.draft(0, 0, 0, 3, 0, 0));
        Check.indexOut("tongue -2", () -> hub.draft(0, 0, 0, -2, 0, 0));
        Check.indexOut("tongue MAX", () -> hub.draft(0, 0, 0, MAX, 0, 0));
        Check.due(0, "refusals use up no number", () -> hub.draft(0, 0, 0, 0, 0, 0));
    }

    private static void draftRefusesRanges() {
        Check.promise("promise 7");
        ShopHub hub = hubWithGoods(1);
        Check.illegalArgument("value -2", () -> hub.draft(0, 0, 0, 0, -2, 0));
        Check.illegalArgument("value 100001", () -> hub.draft(0, 0, 0, 0, 100001, 0));
        Check.illegalArgument("value MAX", () -> hub.draft(0, 0, 0, 0, MAX, 0));
        Check.illegalArgument("value MIN", () -> hub.draft(0, 0, 0, 0, MIN, 0));
        Check.illegalArgument("day -1", () -> hub.draft(0, 0, 0, 0, 0, -1));
        Check.illegalArgument("day 1001", () -> hub.draft(0, 0, 0, 0, 0, 1001));
        Check.illegalArgument("day -1 of an empty draft", () -> hub.draft(0, 0, 0, 0, -1, -1));
        Check.due(0, "refusals use up no number", () -> hub.draft(0, 0, 0, 0, 0, 0));
    }

    private static void draftOrderOfExceptions() {
        Check.promise("promise 7");
        ShopHub hub = hubWithGoods(1);
        Check.indexOut("good ahead of value", () -> hub.draft(1, 0, 0, 0, -2, 0));
        Check.indexOut("attribute ahead of value", () -> hub.draft(0, 6, 0, 0, -2, 0));
        Check.indexOut("shop ahead of value", () -> hub.draft(0, 0, 3, 0, -2, 0));
        Check.indexOut("tongue ahead of day", () -> hub.draft(0, 0, 0, 3, 0, 1001));
    }

    private static void twoHundredDrafts() {
        Check.promise("promise 7");
        ShopHub hub = hubWithGoods(2);
        for (int draft = 0; draft < 200; draft++) {
            int d = draft;
            Check.due(d, "draft " + d, () -> hub.draft(d % 2, d % 6, -1, -1, d, 0));
        }
        Check.illegalState("a 201st draft", () -> hub.draft(0, 0, 0, 0, 0, 0));
        Check.illegalArgument("a 201st draft with a wrong value", () -> hub.draft(0, 0, 0, 0, -2, 0));
        Check.indexOut("a 201st draft for no good", () -> hub.draft(2, 0, 0, 0, 0, 0));
        Check.due(true, "the last draft can be approved", () -> hub.approve(199));
        Check.due(199, "and holds", () -> hub.value(1, 1, 0, 0));
        Check.indexOut("approve(200)", () -> hub.approve(200));
        hub.delete(1);
        Check.illegalState("a 201st draft behind a deletion", () -> hub.draft(0, 0, 0, 0, 0, 0));
    }

    private static void approve() {
        Check.promise("promise 8");
        ShopHub hub = hubWithGoods(1);
        hub.draft(0, 1, 0, 0, 5, 0);
        hub.draft(0, 1, 0, 0, 6, 1);
        hub.draft(0, 1, 0, 0, 7, 0);
        hub.draft(0, 1, 1, 0, 8, 0);
        hub.draft(0, 1, 0, 0, -1, 0);
        Check.due(true, "a later number first", () -> hub.approve(2));
        Check.due(false, "a lower number with the same day", () -> hub.approve(0));
        Check.due(7, "value", () -> hub.value(0, 1, 0, 0));
        Check.due(false, "a day that is to come", () -> hub.approve(1));
        Check.due(7, "value", () -> hub.value(0, 1, 0, 0));
        Check.due(true, "another place", () -> hub.approve(3));
        Check.due(true, "an empty one", () -> hub.approve(4));
        Check.illegalState("value told empty", () -> hub.value(0, 1, 0, 0));
        hub.pass(1);
        Check.due(6, "the draft of the day", () -> hub.value(0, 1, 0, 0));
    }

    private static void approveRefuses() {
        Check.promise("promise 8");
        ShopHub hub = hubWithGoods(2);
        hub.draft(0, 1, 0, 0, 5, 0);
        hub.draft(0, 1, 0, 0, 6, 0);
        hub.draft(1, 1, 0, 0, 6, 0);
        Check.indexOut("approve(-1)", () -> hub.approve(-1));
        Check.indexOut("approve(3)", () -> hub.approve(3));
        Check.indexOut("approve(200)", () -> hub.approve(200));
        Check.indexOut("approve(MAX)", () -> hub.approve(MAX));
        Check.indexOut("approve(MIN)", () -> hub.approve(MIN));
        hub.approve(0);
        Check.illegalState("approved", () -> hub.approve(0));
        Check.due(5, "it stays approved", () -> hub.value(0, 1, 0, 0));
        hub.reject(1);
        Check.illegalState("rejected", () -> hub.approve(1));
        hub.reject(0);
        Check.illegalState("approved, then rejected", () -> hub.approve(0));
        hub.approve(2);
        hub.delete(1);
        Check.indexOut("its good was deleted, though it is not open either", () -> hub.approve(2));
    }

    private static void latestDayHolds() {
        Check.promise("promise 8");
        ShopHub hub = hubWithGoods(1);
        hub.draft(0, 1, 0, 0, 50, 5);
        hub.draft(0, 1, 0, 0, 30, 3);
        hub.draft(0, 1, 0, 0, 51, 5);
        hub.pass(7);
        Check.due(true, "day 3", () -> hub.approve(1));
        Check.due(true, "day 5", () -> hub.approve(0));
        Check.due(50, "the latest day, not the highest number", () -> hub.value(0, 1, 0, 0));
        Check.due(true, "day 5 with a higher number", () -> hub.approve(2));
        Check.due(51, "the highest number of one day", () -> hub.value(0, 1, 0, 0));
    }

    private static void reject() {
        Check.promise("promise 9");
        ShopHub hub = hubWithGoods(1);
        hub.draft(0, 1, 0, 0, 5, 0);
        hub.draft(0, 1, 0, 0, 6, 0);
        hub.draft(0, 1, 0, 0, 7, 4);
        hub.draft(0, 1, 0, 0, 8, 0);
        hub.approve(0);
        hub.approve(1);
        hub.approve(2);
        Check.due(false, "open", () -> hub.reject(3));
        Check.due(false, "approved, for a day that is to come", () -> hub.reject(2));
        Check.due(true, "held", () -> hub.reject(1));
        Check.due(5, "the one behind it holds again", () -> hub.value(0, 1, 0, 0));
        hub.pass(4);
        Check.due(5, "the rejected one does not hold on its day", () -> hub.value(0, 1, 0, 0));
        Check.due(true, "held", () -> hub.reject(0));
        Check.due(-1, "none holds", () -> hub.origin(0, 1, 0, 0));
        hub.draft(0, 2, 0, 0, 5, 0);
        hub.draft(0, 2, 0, 0, 6, 0);
        hub.approve(4);
        hub.approve(5);
        Check.due(false, "approved, but another one held", () -> hub.reject(4));
        Check.due(6, "which holds still", () -> hub.value(0, 2, 0, 0));
    }

    private static void rejectRefuses() {
        Check.promise("promise 9");
        ShopHub hub = hubWithGoods(2);
        hub.draft(0, 1, 0, 0, 5, 0);
        hub.draft(1, 1, 0, 0, 5, 0);
        Check.indexOut("reject(-1)", () -> hub.reject(-1));
        Check.indexOut("reject(2)", () -> hub.reject(2));
        Check.indexOut("reject(200)", () -> hub.reject(200));
        Check.indexOut("reject(MAX)", () -> hub.reject(MAX));
        hub.reject(0);
        Check.illegalState("rejected", () -> hub.reject(0));
        hub.reject(1);
        hub.delete(1);
        Check.indexOut("its good was deleted, though it is rejected too", () -> hub.reject(1));
    }

    private static void pass() {
        Check.promise("promise 10");
        ShopHub hub = hubWithGoods(1);
        hub.draft(0, 1, 0, 0, 5, 102);
        hub.approve(0);
        Check.illegalArgument("pass(0)", () -> hub.pass(0));
        Check.illegalArgument("pass(-1)", () -> hub.pass(-1));
        Check.illegalArgument("pass(101)", () -> hub.pass(101));
        Check.illegalArgument("pass(MAX)", () -> hub.pass(MAX));
        Check.illegalArgument("pass(MIN)", () -> hub.pass(MIN));
        Check.due(1, "pass(1)", () -> hub.pass(1));
        Check.due(101, "pass(100)", () -> hub.pass(100));
        Check.due(0, "a day before the draft's", () -> hub.told(0));
        Check.due(102, "pass(1)", () -> hub.pass(1));
        Check.due(1, "the draft's day", () -> hub.told(0));
        for (int step = 1; step <= 12; step++) {
            int day = 102 + step * 100;
            Check.due(day, "days go on", () -> hub.pass(100));
        }
        Check.due(5, "and the draft holds on", () -> hub.value(0, 1, 0, 0));
    }
}
