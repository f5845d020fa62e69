/** Promises 1 to 6, sentence by sentence: what stands just inside and just outside of it. */
public final class GoodsEdgesTest {
    private static final Refusals EMPTY = new Refusals(ShopHub::new);
    private static final Refusals BUSY = new Refusals(Hubs::busy);
    private static final Refusals FULL = new Refusals(Hubs::full);

    public static void main(String[] args) {
        newObject();
        newObjectRefuses();
        addGood();
        addGoodParent();
        addGoodReturns();
        addGoodThrowsIndex();
        addGoodThrowsState();
        move();
        moveGood();
        moveParent();
        moveReturns();
        moveThrowsIndex();
        moveThrowsStateAtLoops();
        moveThrowsStateAtDepth();
        delete();
        deleteGood();
        deleteThrowsIndex();
        deleteThrowsState();
        deleteAllowsBehindThat();
        addPart();
        addPartGood();
        addPartPart();
        addPartQuantity();
        addPartReturns();
        addPartThrowsIndex();
        addPartThrowsArgument();
        addPartThrowsState();
        setDiscount();
        setDiscountGood();
        setDiscountDiscount();
        setDiscountReturns();
        setDiscountThrowsIndex();
        setDiscountThrowsArgument();
        Check.end();
    }

    private static void newObject() {
        Check.sentence("promise 1", "Creates a hub without goods and drafts.");
        for (int shop = 0; shop < 3; shop++) {
            int s = shop;
            ShopHub hub = new ShopHub();
            Check.due(0, "complete", () -> hub.complete(s));
            Check.due(0, "changed", () -> hub.changed(s));
            Check.due(0, "feed", () -> hub.feed(s));
            Check.due(true, "toggleAsked of the least attribute", () -> hub.toggleAsked(s, 0));
            Check.due(true, "toggleAsked of the greatest attribute", () -> hub.toggleAsked(s, 5));
            Check.due(0, "complete, asked", () -> hub.complete(s));
        }
        Check.due(0, "addGood", () -> new ShopHub().addGood(-1));
        Check.due(1, "pass", () -> new ShopHub().pass(1));
        Check.due(0, "draft", () -> Hubs.of(-1).draft(0, 0, 0, 0, 0, 0));
    }

    private static void newObjectRefuses() {
        Check.sentence("promise 1", "Creates a hub without goods and drafts.");
        for (int number : new int[] {0, 1, 15}) {
            EMPTY.index("addGood", hub -> hub.addGood(number));
            EMPTY.index("move", hub -> hub.move(number, -1));
            EMPTY.index("delete", hub -> hub.delete(number));
            EMPTY.index("addPart", hub -> hub.addPart(number, 0, 1));
            EMPTY.index("setDiscount", hub -> hub.setDiscount(number, 0));
            EMPTY.index("draft", hub -> hub.draft(number, 0, 0, 0, 0, 0));
            EMPTY.index("approve", hub -> hub.approve(number));
            EMPTY.index("reject", hub -> hub.reject(number));
            EMPTY.index("value", hub -> hub.value(number, 0, 0, 0));
            EMPTY.index("origin", hub -> hub.origin(number, 0, 0, 0));
            EMPTY.index("told", hub -> hub.told(number));
            EMPTY.index("missing", hub -> hub.missing(number, 0, 0));
            EMPTY.index("price", hub -> hub.price(number, 0));
        }
    }

    private static void addGood() {
        Check.sentence("promise 2", "Adds a good.");
        ShopHub hub = new ShopHub();
        Check.indexOut("told ahead of it", () -> hub.told(0));
        hub.addGood(-1);
        Check.due(0, "told behind it", () -> hub.told(0));
        Check.due(1, "complete", () -> hub.complete(0));
        Check.due(0, "its discount", () -> hub.setDiscount(0, 0));
        Check.due(-1, "its origin", () -> hub.origin(0, 0, 0, 0));
        Check.illegalState("its price", () -> hub.price(0, 0));
        Check.indexOut("one good is added, not two", () -> hub.told(1));
    }

    private static void addGoodParent() {
        Check.sentence("promise 2", "- `parent`: a good at level 0 or 1, or -1 for none");
        ShopHub hub = new ShopHub();
        hub.addGood(-1);
        Check.due(-1, "none", () -> hub.move(0, -1));
        hub.addGood(0);
        Check.due(0, "the least good, at level 0", () -> hub.move(1, 0));
        hub.addGood(1);
        Check.due(1, "a good at level 1", () -> hub.move(2, 1));
        for (int good = 3; good < 15; good++) {
            hub.addGood(-1);
        }
        hub.addGood(14);
        Check.due(14, "the greatest good there can be", () -> hub.move(15, -1));
    }

    private static void addGoodReturns() {
        Check.sentence("promise 2", "Returns number of the good.");
        ShopHub hub = new ShopHub();
        Check.due(0, "the first", () -> hub.addGood(-1));
        Check.due(1, "the second", () -> hub.addGood(0));
        hub.delete(1);
        Check.due(2, "the third, with the second deleted", () -> hub.addGood(-1));
        hub.delete(0);
        hub.delete(2);
        Check.due(3, "the fourth, with all deleted", () -> hub.addGood(-1));
        for (int good = 4; good < 15; good++) {
            hub.addGood(-1);
        }
        Check.due(15, "the last", () -> hub.addGood(-1));
    }

    private static void addGoodThrowsIndex() {
        Check.sentence("promise 2", "Throws `IndexOutOfBoundsException` if parent is neither -1 nor a good");
        for (int parent : Wrong.PARENTS) {
            BUSY.index("addGood(" + parent + ")", hub -> hub.addGood(parent));
        }
        FULL.index("addGood(16), with 16 goods there", hub -> hub.addGood(16));
        FULL.index("addGood(-2), with 16 goods there", hub -> hub.addGood(-2));
    }

    private static void addGoodThrowsState() {
        Check.sentence("promise 2", "Throws `IllegalStateException` if the parent is at level 2,"
                + " or there have been 16 goods");
        BUSY.state("addGood(2), at level 2", hub -> hub.addGood(2));
        Check.due(8, "addGood(1), at level 1", () -> Hubs.busy().addGood(1));
        ShopHub moved = Hubs.of(-1, 0, -1);
        moved.move(2, 1);
        Check.illegalState("a good that was moved to level 2", () -> moved.addGood(2));
        moved.move(2, 0);
        Check.due(3, "the same good at level 1 again", () -> moved.addGood(2));
        ShopHub raised = Hubs.of(-1, 0, 1);
        raised.move(1, -1);
        Check.due(3, "a good whose parent was moved up", () -> raised.addGood(2));
        FULL.state("addGood(-1), with 16 goods there", hub -> hub.addGood(-1));
        FULL.state("addGood(15), with 16 goods there", hub -> hub.addGood(15));
        FULL.state("addGood(2), at level 2 and with 16 goods there", hub -> hub.addGood(2));
        ShopHub deleted = Hubs.full();
        deleted.delete(13);
        Check.illegalState("with 16 goods, of which one was deleted", () -> deleted.addGood(-1));
    }

    private static void move() {
        Check.sentence("promise 3", "Gives a good another parent.");
        ShopHub hub = Hubs.busy();
        Check.illegalState("the value ahead of it", () -> hub.value(7, 0, 0, 0));
        hub.move(7, 3);
        Check.due(99, "the value behind it", () -> hub.value(7, 0, 0, 0));
        Check.illegalState("the parent can't be deleted", () -> hub.delete(3));
        hub.move(7, -1);
        Check.illegalState("the value without a parent", () -> hub.value(7, 0, 0, 0));
    }

    private static void moveGood() {
        Check.sentence("promise 3", "- `good`: a good");
        Check.due(-1, "the least", () -> Hubs.busy().move(0, -1));
        Check.due(-1, "the greatest that is there", () -> Hubs.busy().move(7, 0));
        Check.due(-1, "the greatest there can be", () -> Hubs.full().move(15, 0));
    }

    private static void moveParent() {
        Check.sentence("promise 3", "- `parent`: another good, or -1 for none");
        Check.due(1, "none", () -> Hubs.busy().move(2, -1));
        Check.due(1, "the least", () -> Hubs.busy().move(2, 0));
        Check.due(1, "the greatest that is there", () -> Hubs.busy().move(2, 7));
        Check.due(1, "the greatest there can be", () -> Hubs.full().move(2, 15));
        Check.due(1, "the parent that it has", () -> Hubs.busy().move(2, 1));
        Check.due(-1, "none for a good that has none", () -> Hubs.busy().move(3, -1));
    }

    private static void moveReturns() {
        Check.sentence("promise 3", "Returns the parent before, -1 if it had none.");
        ShopHub hub = Hubs.of(-1, -1, -1);
        Check.due(-1, "none", () -> hub.move(1, 0));
        Check.due(0, "the least good", () -> hub.move(1, 2));
        Check.due(2, "another one", () -> hub.move(1, -1));
        Check.due(-1, "none again", () -> hub.move(1, -1));
    }

    private static void moveThrowsIndex() {
        Check.sentence("promise 3", "Throws `IndexOutOfBoundsException` if there is no such good,"
                + " or parent is neither -1 nor a good");
        for (int good : Wrong.GOODS) {
            BUSY.index("move(" + good + ", -1)", hub -> hub.move(good, -1));
            BUSY.index("move(" + good + ", 0)", hub -> hub.move(good, 0));
            BUSY.index("move below itself of " + good, hub -> hub.move(good, good));
        }
        for (int parent : Wrong.PARENTS) {
            BUSY.index("move(0, " + parent + ")", hub -> hub.move(0, parent));
        }
        FULL.index("move(16, 0)", hub -> hub.move(16, 0));
        FULL.index("move(0, 16)", hub -> hub.move(0, 16));
    }

    private static void moveThrowsStateAtLoops() {
        Check.sentence("promise 3", "Throws `IllegalStateException` if the parent is the good itself or below it,"
                + " or some good would be deeper than level 2");
        BUSY.state("move(0, 0)", hub -> hub.move(0, 0));
        BUSY.state("move(2, 2)", hub -> hub.move(2, 2));
        BUSY.state("move(7, 7)", hub -> hub.move(7, 7));
        BUSY.state("move(0, 1), its child", hub -> hub.move(0, 1));
        BUSY.state("move(0, 2), its child's child", hub -> hub.move(0, 2));
        BUSY.state("move(1, 2), its child", hub -> hub.move(1, 2));
        FULL.state("move(15, 15)", hub -> hub.move(15, 15));
    }

    private static void moveThrowsStateAtDepth() {
        Check.sentence("promise 3", "Throws `IllegalStateException` if the parent is the good itself or below it,"
                + " or some good would be deeper than level 2");
        BUSY.state("move(7, 2), to level 3", hub -> hub.move(7, 2));
        BUSY.state("move(0, 7), good 2 to level 3", hub -> hub.move(0, 7));
        FULL.state("move(0, 15), good 2 to level 3", hub -> hub.move(0, 15));
        Check.due(-1, "move(7, 1), to level 2", () -> Hubs.busy().move(7, 1));
        Check.due(0, "move(1, 7), good 2 to level 2", () -> Hubs.busy().move(1, 7));
        Refusals twoTrees = new Refusals(() -> Hubs.of(-1, 0, -1, 2));
        twoTrees.state("move(2, 1), good 3 to level 3", hub -> hub.move(2, 1));
        twoTrees.state("move(0, 3), good 1 to level 4", hub -> hub.move(0, 3));
        Check.due(-1, "move(2, 0), good 3 to level 2", () -> Hubs.of(-1, 0, -1, 2).move(2, 0));
        Refusals brothers = new Refusals(() -> Hubs.of(-1, 0, 0, 1, -1));
        brothers.state("move(0, 4), good 3 to level 3 and good 2 to level 2", hub -> hub.move(0, 4));
        Refusals turned = new Refusals(() -> {
            ShopHub hub = Hubs.of(-1, -1, -1, 2);
            hub.move(0, 1);
            return hub;
        });
        turned.state("move(1, 3), good 0 to level 3", hub -> hub.move(1, 3));
    }

    private static void delete() {
        Check.sentence("promise 4", "Deletes a good, with its drafts.");
        Refusals deleted = new Refusals(() -> {
            ShopHub hub = Hubs.busy();
            hub.approve(hub.draft(7, 0, 0, 0, 3, 0));
            hub.draft(7, 0, 0, 0, 4, 0);
            hub.reject(hub.draft(7, 0, 0, 0, 5, 0));
            hub.delete(7);
            return hub;
        });
        deleted.index("the good", hub -> hub.told(7));
        for (int draft = 13; draft < 16; draft++) {
            int d = draft;
            deleted.index("approve of its draft " + d, hub -> hub.approve(d));
            deleted.index("reject of its draft " + d, hub -> hub.reject(d));
        }
        ShopHub hub = Hubs.busy();
        hub.delete(7);
        Check.due(true, "drafts of other goods stay", () -> hub.approve(7));
        Check.due(6, "complete does not count it", () -> hub.complete(1));
    }

    private static void deleteGood() {
        Check.sentence("promise 4", "- `good`: a good");
        ShopHub least = Hubs.of(-1, -1);
        least.delete(0);
        Check.indexOut("the least", () -> least.told(0));
        Check.due(0, "the one behind it stays", () -> least.told(1));
        ShopHub greatest = Hubs.full();
        greatest.delete(15);
        Check.indexOut("the greatest there can be", () -> greatest.told(15));
    }

    private static void deleteThrowsIndex() {
        Check.sentence("promise 4", "Throws `IndexOutOfBoundsException` if there is no such good");
        for (int good : Wrong.GOODS) {
            BUSY.index("delete(" + good + ")", hub -> hub.delete(good));
        }
        FULL.index("delete(16)", hub -> hub.delete(16));
    }

    private static void deleteThrowsState() {
        Check.sentence("promise 4", "Throws `IllegalStateException` if it is the parent or a part of some good");
        BUSY.state("delete(1), a parent", hub -> hub.delete(1));
        BUSY.state("delete(0), a parent and a part", hub -> hub.delete(0));
        BUSY.state("delete(3), a part", hub -> hub.delete(3));
        BUSY.state("delete(4), a part and a bundle", hub -> hub.delete(4));
        FULL.state("delete(14), a part of the greatest good", hub -> hub.delete(14));
        Refusals turned = new Refusals(() -> {
            ShopHub hub = Hubs.of(-1, -1);
            hub.move(0, 1);
            return hub;
        });
        turned.state("delete(1), the parent of the least good", hub -> hub.delete(1));
    }

    private static void deleteAllowsBehindThat() {
        Check.sentence("promise 4", "Throws `IllegalStateException` if it is the parent or a part of some good");
        ShopHub hub = Hubs.busy();
        hub.delete(5);
        hub.delete(4);
        hub.delete(3);
        Check.indexOut("parts of goods that were deleted", () -> hub.told(3));
        hub.delete(2);
        hub.delete(1);
        hub.delete(0);
        Check.indexOut("parents of goods that were deleted", () -> hub.told(0));
        ShopHub moved = Hubs.of(-1, 0);
        moved.move(1, -1);
        moved.delete(0);
        Check.indexOut("a parent before a move", () -> moved.told(0));
    }

    private static void addPart() {
        Check.sentence("promise 5", "Makes a good a part of another one, on top of the quantity that is there.");
        ShopHub hub = Hubs.of(-1, -1);
        Hubs.tell(hub, 0, 0, -1, -1, 10);
        Check.illegalState("no part yet", () -> hub.price(1, 0));
        hub.addPart(1, 0, 1);
        Check.due(10, "one piece", () -> hub.price(1, 0));
        hub.addPart(1, 0, 2);
        Check.due(30, "two pieces on top", () -> hub.price(1, 0));
    }

    private static void addPartGood() {
        Check.sentence("promise 5", "- `good`: a good");
        Check.due(1, "the least that has a lower one", () -> Hubs.busy().addPart(1, 0, 1));
        Check.due(1, "the greatest that is there", () -> Hubs.busy().addPart(7, 0, 1));
        Check.due(1, "the greatest there can be", () -> Hubs.full().addPart(15, 0, 1));
    }

    private static void addPartPart() {
        Check.sentence("promise 5", "- `part`: a good with a lower number");
        Check.due(1, "the least", () -> Hubs.busy().addPart(3, 0, 1));
        Check.due(1, "the greatest lower one", () -> Hubs.busy().addPart(3, 2, 1));
        Check.due(1, "the greatest there can be", () -> {
            ShopHub hub = Hubs.full();
            hub.delete(15);
            return hub.addPart(14, 13, 1);
        });
        Check.due(1, "its parent", () -> Hubs.busy().addPart(2, 1, 1));
    }

    private static void addPartQuantity() {
        Check.sentence("promise 5", "- `quantity`: 1 to 20");
        Check.due(1, "the least", () -> Hubs.busy().addPart(7, 5, 1));
        Check.due(20, "the greatest", () -> Hubs.busy().addPart(7, 5, 20));
    }

    private static void addPartReturns() {
        Check.sentence("promise 5", "Returns the quantity of the part in the good then.");
        ShopHub hub = Hubs.of(-1, -1, -1);
        Check.due(7, "none there yet", () -> hub.addPart(2, 0, 7));
        Check.due(8, "on top", () -> hub.addPart(2, 0, 1));
        Check.due(20, "to the full", () -> hub.addPart(2, 0, 12));
        Check.due(3, "another part", () -> hub.addPart(2, 1, 3));
        Check.due(4, "in another good", () -> hub.addPart(1, 0, 4));
    }

    private static void addPartThrowsIndex() {
        Check.sentence("promise 5", "Throws `IndexOutOfBoundsException` if there is no such good, of either");
        for (int number : Wrong.GOODS) {
            BUSY.index("addPart(" + number + ", 0, 1)", hub -> hub.addPart(number, 0, 1));
            BUSY.index("addPart(" + number + ", 0, 0)", hub -> hub.addPart(number, 0, 0));
            BUSY.index("addPart(7, " + number + ", 1)", hub -> hub.addPart(7, number, 1));
            BUSY.index("addPart(7, " + number + ", 21)", hub -> hub.addPart(7, number, 21));
            BUSY.index("addPart of itself of " + number, hub -> hub.addPart(number, number, 1));
        }
        FULL.index("addPart(16, 0, 1)", hub -> hub.addPart(16, 0, 1));
        FULL.index("addPart(15, 16, 1)", hub -> hub.addPart(15, 16, 1));
    }

    private static void addPartThrowsArgument() {
        Check.sentence("promise 5", "Throws `IllegalArgumentException` if part is not lower than good,"
                + " or quantity is out of range");
        BUSY.argument("addPart(0, 0, 1)", hub -> hub.addPart(0, 0, 1));
        BUSY.argument("addPart(7, 7, 1)", hub -> hub.addPart(7, 7, 1));
        BUSY.argument("addPart(4, 5, 1)", hub -> hub.addPart(4, 5, 1));
        BUSY.argument("addPart(0, 7, 20)", hub -> hub.addPart(0, 7, 20));
        FULL.argument("addPart(0, 15, 1)", hub -> hub.addPart(0, 15, 1));
        FULL.argument("addPart(15, 15, 1)", hub -> hub.addPart(15, 15, 1));
        for (int quantity : Wrong.QUANTITIES) {
            BUSY.argument("addPart(7, 0, " + quantity + ")", hub -> hub.addPart(7, 0, quantity));
            BUSY.argument("addPart(4, 3, " + quantity + "), 20 there", hub -> hub.addPart(4, 3, quantity));
            BUSY.argument("addPart(3, 4, " + quantity + ")", hub -> hub.addPart(3, 4, quantity));
        }
    }

    private static void addPartThrowsState() {
        Check.sentence("promise 5", "Throws `IllegalStateException` if the quantity of the part"
                + " would be more than 20");
        BUSY.state("1 on top of 20", hub -> hub.addPart(4, 3, 1));
        BUSY.state("20 on top of 20", hub -> hub.addPart(4, 3, 20));
        BUSY.state("19 on top of 2", hub -> hub.addPart(4, 0, 19));
        Check.due(20, "18 on top of 2", () -> Hubs.busy().addPart(4, 0, 18));
        BUSY.state("20 on top of 1", hub -> hub.addPart(5, 4, 20));
        Check.due(20, "19 on top of 1", () -> Hubs.busy().addPart(5, 4, 19));
        FULL.state("1 on top of 20, in the greatest good", hub -> hub.addPart(15, 14, 1));
    }

    private static void setDiscount() {
        Check.sentence("promise 6", "Sets the discount of a good.");
        ShopHub hub = Hubs.busy();
        Check.due(2108, "the price ahead of it", () -> hub.price(4, 0));
        hub.setDiscount(4, 50);
        Check.due(1240, "the price behind it", () -> hub.price(4, 0));
        Check.due(0, "another good's stays", () -> hub.setDiscount(5, 0));
    }

    private static void setDiscountGood() {
        Check.sentence("promise 6", "- `good`: a good");
        Check.due(0, "the least", () -> Hubs.busy().setDiscount(0, 1));
        Check.due(100, "the greatest that is there", () -> Hubs.busy().setDiscount(7, 1));
        Check.due(0, "the greatest there can be", () -> Hubs.full().setDiscount(15, 1));
    }

    private static void setDiscountDiscount() {
        Check.sentence("promise 6", "- `discount`: 0 to 100");
        ShopHub hub = Hubs.busy();
        hub.setDiscount(4, 0);
        Check.due(2480, "the least", () -> hub.price(4, 0));
        hub.setDiscount(4, 100);
        Check.due(0, "the greatest", () -> hub.price(4, 0));
        hub.setDiscount(4, 99);
        Check.due(24, "the one next to it", () -> hub.price(4, 0));
    }

    private static void setDiscountReturns() {
        Check.sentence("promise 6", "Returns the discount before, 0 at first.");
        ShopHub hub = Hubs.of(-1);
        Check.due(0, "at first", () -> hub.setDiscount(0, 100));
        Check.due(100, "the greatest", () -> hub.setDiscount(0, 100));
        Check.due(100, "the same again", () -> hub.setDiscount(0, 0));
        Check.due(0, "the least", () -> hub.setDiscount(0, 1));
        Check.due(1, "the one next to it", () -> hub.setDiscount(0, 1));
    }

    private static void setDiscountThrowsIndex() {
        Check.sentence("promise 6", "Throws `IndexOutOfBoundsException` if there is no such good");
        for (int good : Wrong.GOODS) {
            BUSY.index("setDiscount(" + good + ", 1)", hub -> hub.setDiscount(good, 1));
            BUSY.index("setDiscount(" + good + ", 101)", hub -> hub.setDiscount(good, 101));
        }
        FULL.index("setDiscount(16, 1)", hub -> hub.setDiscount(16, 1));
    }

    private static void setDiscountThrowsArgument() {
        Check.sentence("promise 6", "Throws `IllegalArgumentException` if discount is out of range");
        for (int discount : Wrong.DISCOUNTS) {
            BUSY.argument("setDiscount(4, " + discount + ")", hub -> hub.setDiscount(4, discount));
        }
    }
}
