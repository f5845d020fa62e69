/** Hubs from which the tests start. */
final class Hubs {
    private Hubs() {
    }

    /** A hub with a good for each of these parents. */
    static ShopHub of(int... parents) {
        ShopHub hub = new ShopHub();
        for (int parent : parents) {
            hub.addGood(parent);
        }
        return hub;
    }

    /** Enters a draft for day 0 and approves it; returns its number. */
    static int tell(ShopHub hub, int good, int attribute, int shop, int tongue, int value) {
        return tellFrom(0, hub, good, attribute, shop, tongue, value);
    }

    /** Enters a draft for a day and approves it; returns its number. */
    static int tellFrom(int day, ShopHub hub, int good, int attribute, int shop, int tongue, int value) {
        int draft = hub.draft(good, attribute, shop, tongue, value, day);
        hub.approve(draft);
        return draft;
    }

    /**
     * Goods 0 to 7, of which 6 is deleted, and drafts 0 to 12, of which 9 and 10 were for good 6; it is day 3.
     * Good 0 has the child 1, and that the child 2; 4 is made of 0 and 3, 5 of 4. Draft 6 waits for day 5,
     * 7 is open, 8 is rejected; shop 0 was sent a feed ahead of draft 12.
     */
    static ShopHub busy() {
        ShopHub hub = of(-1, 0, 1, -1, -1, -1, 3, -1);
        hub.addPart(4, 0, 2);
        hub.addPart(4, 3, 20);
        hub.addPart(5, 4, 1);
        hub.addPart(6, 5, 3);
        hub.setDiscount(4, 15);
        hub.setDiscount(7, 100);
        tell(hub, 0, 0, -1, -1, 250);
        tell(hub, 0, 0, 1, -1, 300);
        tell(hub, 0, 0, 1, -1, 310);
        tell(hub, 1, 0, -1, 1, -1);
        tellFrom(2, hub, 3, 0, 0, 0, 99);
        tell(hub, 3, 0, -1, 0, 40);
        tellFrom(5, hub, 0, 1, -1, -1, 7);
        hub.draft(0, 2, 2, 2, 8, 0);
        hub.reject(hub.draft(2, 5, 2, 2, 100000, 3));
        tell(hub, 6, 1, -1, -1, 5);
        hub.draft(6, 1, 0, -1, 5, 0);
        tell(hub, 1, 3, 0, 1, 0);
        hub.toggleAsked(0, 0);
        hub.toggleAsked(0, 1);
        hub.toggleAsked(0, 3);
        hub.toggleAsked(2, 5);
        hub.feed(0);
        tell(hub, 7, 4, 0, 2, 1);
        hub.delete(6);
        hub.pass(3);
        return hub;
    }

    /** Goods 0 to 15 and drafts 0 to 199, every third of them approved; good 15 is made of 20 pieces of good 14. */
    static ShopHub full() {
        ShopHub hub = of(-1, 0, 1, -1, -1, -1, -1, -1, -1, -1, -1, -1, -1, -1, -1, -1);
        for (int draft = 0; draft < 200; draft++) {
            hub.draft(draft % 16, draft % 6, draft % 4 - 1, draft / 4 % 4 - 1, draft, draft % 3);
            if (draft % 3 == 0) {
                hub.approve(draft);
            }
        }
        hub.addPart(15, 14, 20);
        return hub;
    }

    /** Prices by the piece of 2 million in good 1, 40 million in good 2 and 800 million in good 3; 7 goods. */
    static ShopHub tower() {
        ShopHub hub = of(-1, -1, -1, -1, -1, -1, -1);
        tell(hub, 0, 0, -1, -1, 100000);
        hub.addPart(1, 0, 20);
        hub.addPart(2, 1, 20);
        hub.addPart(3, 2, 20);
        return hub;
    }

    /** A tower with a price of just 1000 million in good 4. */
    static ShopHub highTower() {
        ShopHub hub = tower();
        hub.addPart(4, 3, 1);
        hub.addPart(4, 2, 5);
        return hub;
    }
}
