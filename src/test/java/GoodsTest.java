/** Promises 1 to 6: a new object, addGood, move, delete, addPart, setDiscount. */
public final class GoodsTest {
    private static final int MAX = Integer.MAX_VALUE;
    private static final int MIN = Integer.MIN_VALUE;

    public static void main(String[] args) {
        newObject();
        addGood();
        addGoodRefuses();
        sixteenGoods();
        moveChangesTheParent();
        moveRefusesLoops();
        moveRefusesDepth();
        moveOrderOfExceptions();
        delete();
        deleteForgetsEverything();
        addPart();
        addPartRefuses();
        setDiscount();
        Check.end();
    }

    private static void newObject() {
        Check.promise("promise 1");
        ShopHub hub = new ShopHub();
        Check.indexOut("told(0)", () -> hub.told(0));
        Check.indexOut("approve(0)", () -> hub.approve(0));
        for (int shop = 0; shop < 3; shop++) {
            int s = shop;
            Check.due(0, "complete", () -> hub.complete(s));
            Check.due(0, "changed", () -> hub.changed(s));
            Check.due(0, "feed", () -> hub.feed(s));
        }
        Check.due(1, "pass(1) from day 0", () -> hub.pass(1));
        ShopHub other = new ShopHub();
        hub.addGood(-1);
        Check.indexOut("told(0) of another hub", () -> other.told(0));
    }

    private static void addGood() {
        Check.promise("promise 2");
        ShopHub hub = new ShopHub();
        Check.due(0, "addGood(-1)", () -> hub.addGood(-1));
        Check.due(1, "addGood(0)", () -> hub.addGood(0));
        Check.due(2, "addGood(1)", () -> hub.addGood(1));
        Check.due(3, "addGood(1) again", () -> hub.addGood(1));
        Check.due(4, "addGood(-1)", () -> hub.addGood(-1));
        Check.due(1, "parent of 2", () -> hub.move(2, -1));
        Check.due(0, "parent of 1", () -> hub.move(1, -1));
        Check.due(-1, "parent of 0", () -> hub.move(0, -1));
    }

    private static void addGoodRefuses() {
        Check.promise("promise 2");
        ShopHub hub = Hubs.of(-1, 0, 1);
        Check.illegalState("addGood at level 3", () -> hub.addGood(2));
        Check.indexOut("addGood(3)", () -> hub.addGood(3));
        Check.indexOut("addGood(-2)", () -> hub.addGood(-2));
        Check.indexOut("addGood(16)", () -> hub.addGood(16));
        Check.indexOut("addGood(MAX)", () -> hub.addGood(MAX));
        Check.indexOut("addGood(MIN)", () -> hub.addGood(MIN));
        hub.delete(2);
        Check.indexOut("addGood of a deleted good", () -> hub.addGood(2));
        Check.due(3, "the next number, nothing used up by refusals or given again", () -> hub.addGood(1));
    }

    private static void sixteenGoods() {
        Check.promise("promise 2");
        ShopHub hub = new ShopHub();
        for (int good = 0; good < 16; good++) {
            int g = good;
            Check.due(g, "addGood(-1)", () -> hub.addGood(-1));
        }
        Check.illegalState("a 17th good", () -> hub.addGood(-1));
        Check.illegalState("a 17th good below good 15", () -> hub.addGood(15));
        Check.indexOut("a 17th good below none such goes first", () -> hub.addGood(16));
        hub.delete(3);
        Check.illegalState("a 17th good behind a deletion", () -> hub.addGood(-1));
        Check.indexOut("a 17th good below a deleted one", () -> hub.addGood(3));
    }

    private static void moveChangesTheParent() {
        Check.promise("promise 3");
        ShopHub hub = Hubs.of(-1, -1, 0);
        hub.draft(0, 1, -1, -1, 10, 0);
        hub.draft(1, 1, -1, -1, 11, 0);
        hub.approve(0);
        hub.approve(1);
        Check.due(10, "value below 0", () -> hub.value(2, 1, 0, 0));
        Check.due(0, "move(2, 1)", () -> hub.move(2, 1));
        Check.due(11, "value below 1", () -> hub.value(2, 1, 0, 0));
        Check.due(1, "move to where it is", () -> hub.move(2, 1));
        Check.due(1, "move(2, -1)", () -> hub.move(2, -1));
        Check.illegalState("value below none", () -> hub.value(2, 1, 0, 0));
        Check.due(-1, "move(0, 2), a good with a higher number", () -> hub.move(0, 2));
        Check.due(2, "move(0, -1)", () -> hub.move(0, -1));
    }

    private static void moveRefusesLoops() {
        Check.promise("promise 3");
        ShopHub hub = Hubs.of(-1, 0, 1, -1);
        Check.illegalState("below itself", () -> hub.move(0, 0));
        Check.illegalState("below its child", () -> hub.move(0, 1));
        Check.illegalState("below its grandchild", () -> hub.move(0, 2));
        Check.illegalState("a leaf below itself", () -> hub.move(2, 2));
        Check.illegalState("a single good below itself", () -> hub.move(3, 3));
        Check.due(1, "the parent of 2 has stayed", () -> hub.move(2, 0));
        Check.due(0, "the parent of 1 has stayed", () -> hub.move(1, -1));
        Check.due(-1, "the parent of 0 has stayed", () -> hub.move(0, -1));
    }

    private static void moveRefusesDepth() {
        Check.promise("promise 3");
        ShopHub hub = Hubs.of(-1, 0, 1, -1, 3, -1);
        Check.illegalState("a good to level 3", () -> hub.move(5, 2));
        Check.due(-1, "a good to level 2", () -> hub.move(5, 1));
        Check.illegalState("a good with a child to level 2", () -> hub.move(3, 1));
        Check.due(-1, "a good with a child to level 1", () -> hub.move(3, 0));
        Check.illegalState("a good with a grandchild to level 1", () -> {
            ShopHub deep = Hubs.of(-1, 0, 1, -1);
            deep.move(0, 3);
        });
        Check.due(0, "a good with a child up to level 0", () -> hub.move(1, -1));
        Check.illegalState("a leaf below a leaf at level 2", () -> hub.move(2, 4));
        Check.due(1, "a leaf from a tree to another", () -> hub.move(2, 3));
        ShopHub turned = Hubs.of(-1, -1, -1, 2);
        turned.move(0, 1);
        Check.illegalState("good 0 below counts too", () -> turned.move(1, 3));
        Check.due(-1, "one level higher it fits", () -> turned.move(1, 2));
        ShopHub wide = Hubs.of(-1, 0, 0, 2, -1);
        Check.illegalState("the deepest of several children counts", () -> wide.move(0, 4));
        wide.delete(3);
        Check.due(-1, "a deleted good does not count", () -> wide.move(0, 4));
    }

    private static void moveOrderOfExceptions() {
        Check.promise("promise 3");
        ShopHub hub = Hubs.of(-1, -1);
        Check.indexOut("move(2, 0)", () -> hub.move(2, 0));
        Check.indexOut("move(-1, 0)", () -> hub.move(-1, 0));
        Check.indexOut("move(-1, -1)", () -> hub.move(-1, -1));
        Check.indexOut("move(0, 2)", () -> hub.move(0, 2));
        Check.indexOut("move(0, -2)", () -> hub.move(0, -2));
        Check.indexOut("move(2, 2)", () -> hub.move(2, 2));
        Check.indexOut("move(MAX, MIN)", () -> hub.move(MAX, MIN));
        hub.delete(1);
        Check.indexOut("move to a deleted good", () -> hub.move(0, 1));
        Check.indexOut("move of a deleted good", () -> hub.move(1, 0));
        Check.indexOut("move of a deleted good below itself", () -> hub.move(1, 1));
    }

    private static void delete() {
        Check.promise("promise 4");
        ShopHub hub = Hubs.of(-1, 0, -1, -1);
        hub.addPart(3, 2, 1);
        Check.indexOut("delete(-1)", () -> hub.delete(-1));
        Check.indexOut("delete(4)", () -> hub.delete(4));
        Check.indexOut("delete(16)", () -> hub.delete(16));
        Check.illegalState("delete of a parent", () -> hub.delete(0));
        Check.illegalState("delete of a part", () -> hub.delete(2));
        Check.due(0, "a refused delete leaves the good", () -> hub.told(0));
        hub.delete(1);
        Check.indexOut("delete of a deleted good", () -> hub.delete(1));
        hub.delete(0);
        Check.indexOut("told of a deleted good", () -> hub.told(0));
        hub.delete(3);
        hub.delete(2);
        Check.indexOut("a part of a good that was deleted can be deleted", () -> hub.told(2));
        ShopHub bundles = Hubs.of(-1, -1);
        bundles.addPart(1, 0, 1);
        bundles.delete(1);
        bundles.delete(0);
        Check.indexOut("so can good 0", () -> bundles.told(0));
        ShopHub turned = Hubs.of(-1, -1);
        turned.move(0, 1);
        Check.illegalState("delete of the parent of good 0", () -> turned.delete(1));
        ShopHub moved = Hubs.of(-1, 0);
        moved.move(1, -1);
        moved.delete(0);
        Check.indexOut("a good that is a parent no more can be deleted", () -> moved.told(0));
    }

    private static void deleteForgetsEverything() {
        Check.promise("promise 4");
        ShopHub hub = Hubs.of(-1, -1);
        hub.draft(1, 0, -1, -1, 7, 0);
        hub.draft(1, 0, 0, 0, 8, 0);
        hub.draft(0, 0, -1, -1, 9, 0);
        hub.approve(0);
        hub.approve(2);
        hub.delete(1);
        Check.indexOut("approve of its draft", () -> hub.approve(1));
        Check.indexOut("reject of its open draft", () -> hub.reject(1));
        Check.indexOut("reject of its approved draft", () -> hub.reject(0));
        Check.indexOut("its value", () -> hub.value(1, 0, 0, 0));
        Check.indexOut("its price", () -> hub.price(1, 0));
        Check.indexOut("a part of it", () -> hub.addPart(1, 0, 1));
        Check.indexOut("its discount", () -> hub.setDiscount(1, 1));
        Check.indexOut("a draft for it", () -> hub.draft(1, 0, 0, 0, 1, 0));
        Check.indexOut("its missing attributes", () -> hub.missing(1, 0, 0));
        Check.indexOut("its origin", () -> hub.origin(1, 0, 0, 0));
        Check.due(9, "the value of another good", () -> hub.value(0, 0, 0, 0));
        Check.due(3, "drafts are numbered on", () -> hub.draft(0, 0, 0, 0, 1, 0));
        Check.due(true, "the draft of another good can be rejected", () -> hub.reject(2));
    }

    private static void addPart() {
        Check.promise("promise 5");
        ShopHub hub = Hubs.of(-1, -1, -1);
        Check.due(1, "addPart(1, 0, 1)", () -> hub.addPart(1, 0, 1));
        Check.due(4, "addPart(1, 0, 3)", () -> hub.addPart(1, 0, 3));
        Check.due(20, "addPart up to 20", () -> hub.addPart(1, 0, 16));
        Check.illegalState("addPart above 20", () -> hub.addPart(1, 0, 1));
        Check.due(20, "addPart(2, 0, 20)", () -> hub.addPart(2, 0, 20));
        Check.due(5, "each part has a quantity of its own", () -> hub.addPart(2, 1, 5));
        Check.illegalState("5 and 16", () -> hub.addPart(2, 1, 16));
        Check.due(20, "a refusal changes nothing: 5 and 15", () -> hub.addPart(2, 1, 15));
        ShopHub family = Hubs.of(-1, 0);
        Check.due(2, "a parent can be a part", () -> family.addPart(1, 0, 2));
    }

    private static void addPartRefuses() {
        Check.promise("promise 5");
        ShopHub hub = Hubs.of(-1, -1, -1);
        Check.indexOut("no good 3", () -> hub.addPart(3, 0, 1));
        Check.indexOut("no part 3", () -> hub.addPart(1, 3, 1));
        Check.indexOut("no part -1", () -> hub.addPart(1, -1, 1));
        Check.indexOut("no good -1", () -> hub.addPart(-1, 0, 1));
        Check.indexOut("no good goes ahead of the quantity", () -> hub.addPart(3, 0, 0));
        Check.indexOut("no part goes ahead of the quantity", () -> hub.addPart(0, 3, 21));
        Check.illegalArgument("itself", () -> hub.addPart(1, 1, 1));
        Check.illegalArgument("a higher number", () -> hub.addPart(1, 2, 1));
        Check.illegalArgument("quantity 0", () -> hub.addPart(1, 0, 0));
        Check.illegalArgument("quantity -1", () -> hub.addPart(1, 0, -1));
        Check.illegalArgument("quantity 21", () -> hub.addPart(1, 0, 21));
        Check.illegalArgument("quantity MAX", () -> hub.addPart(1, 0, MAX));
        Check.illegalArgument("quantity MIN", () -> hub.addPart(1, 0, MIN));
        hub.addPart(1, 0, 20);
        Check.illegalArgument("the range goes ahead of the sum", () -> hub.addPart(1, 0, 21));
        Check.illegalArgument("the range goes ahead of the sum, MAX", () -> hub.addPart(1, 0, MAX));
        hub.delete(2);
        Check.indexOut("a deleted good", () -> hub.addPart(2, 0, 1));
        Check.indexOut("a deleted part", () -> hub.addPart(1, 2, 1));
    }

    private static void setDiscount() {
        Check.promise("promise 6");
        ShopHub hub = Hubs.of(-1, -1);
        Check.due(0, "setDiscount(0, 100)", () -> hub.setDiscount(0, 100));
        Check.due(100, "setDiscount(0, 0)", () -> hub.setDiscount(0, 0));
        Check.due(0, "setDiscount(0, 55)", () -> hub.setDiscount(0, 55));
        Check.due(0, "another good's", () -> hub.setDiscount(1, 1));
        Check.illegalArgument("-1", () -> hub.setDiscount(0, -1));
        Check.illegalArgument("101", () -> hub.setDiscount(0, 101));
        Check.illegalArgument("MAX", () -> hub.setDiscount(0, MAX));
        Check.indexOut("no good 2", () -> hub.setDiscount(2, 1));
        Check.indexOut("no good -1", () -> hub.setDiscount(-1, 1));
        Check.indexOut("no good goes ahead of the range", () -> hub.setDiscount(2, 101));
        Check.due(55, "refusals change nothing", () -> hub.setDiscount(0, 2));
        hub.delete(0);
        Check.indexOut("a deleted good", () -> hub.setDiscount(0, 1));
    }
}
