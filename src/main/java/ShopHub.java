/** A hub of goods for many shops, as ../shared/DOC.md promises it. */
public final class ShopHub {
    private static final int MAX_GOODS = 16;
    private static final int LEVELS = 3;
    private static final int ATTRIBUTES = 6;
    private static final int PRICE = 0;
    private static final int SHOPS = 3;
    private static final int TONGUES = 3;
    private static final int PRICE_TONGUE = 0;

    private static final int MAX_DRAFTS = 200;
    private static final int MAX_VALUE = 100000;
    private static final int MAX_DRAFT_DAY = 1000;
    private static final int MAX_PASS = 100;
    private static final int MAX_QUANTITY = 20;
    private static final int MAX_DISCOUNT = 100;
    private static final int MAX_PRICE = 1000000000;

    /** No good, no draft, no value or no price; also the value of a draft that is empty. */
    private static final int NONE = -1;
    /** In a place: all shops, or all tongues. */
    private static final int ALL = -1;

    private static final int PLACES_PER_ATTRIBUTE = (SHOPS + 1) * (TONGUES + 1);
    private static final int PLACES_PER_GOOD = ATTRIBUTES * PLACES_PER_ATTRIBUTE;
    private static final int SIGHTS_PER_GOOD = ATTRIBUTES * TONGUES;
    private static final int SIGHTS_PER_SHOP = MAX_GOODS * SIGHTS_PER_GOOD;

    private static final int OPEN = 1;
    private static final int APPROVED = 2;
    private static final int REJECTED = 3;
    private static final int DELETED = 4;

    private final boolean[] exists = new boolean[MAX_GOODS];
    private final int[] parents = new int[MAX_GOODS];
    private final int[] discounts = new int[MAX_GOODS];
    private final int[] quantities = new int[MAX_GOODS * MAX_GOODS];
    private int goodCount = 0;

    private final int[] draftGoods = new int[MAX_DRAFTS];
    private final int[] draftPlaces = new int[MAX_DRAFTS];
    private final int[] draftValues = new int[MAX_DRAFTS];
    private final int[] draftDays = new int[MAX_DRAFTS];
    private final int[] draftStates = new int[MAX_DRAFTS];
    private int draftCount = 0;

    private int today = 0;
    private final int[] holders = new int[MAX_GOODS * PLACES_PER_GOOD];
    private final boolean[] asked = new boolean[SHOPS * ATTRIBUTES];
    private final int[] seen = new int[SHOPS * SIGHTS_PER_SHOP];
    private final int[] prices = new int[MAX_GOODS];

    public ShopHub() {
        for (int good = 0; good < parents.length; good++) {
            parents[good] = NONE;
        }
        for (int place = 0; place < holders.length; place++) {
            holders[place] = NONE;
        }
        for (int sight = 0; sight < seen.length; sight++) {
            seen[sight] = NONE;
        }
    }

    // ---- goods

    public int addGood(int parent) throws IndexOutOfBoundsException, IllegalStateException {
        checkParent(parent);
        if (levelOf(parent) + 1 >= LEVELS) {
            throw new IllegalStateException("the parent is at the deepest level");
        }
        if (goodCount >= MAX_GOODS) {
            throw new IllegalStateException("there have been 16 goods");
        }
        int good = goodCount;
        goodCount++;
        exists[good] = true;
        parents[good] = parent;
        return good;
    }

    public int move(int good, int parent) throws IndexOutOfBoundsException, IllegalStateException {
        checkGood(good);
        checkParent(parent);
        if (isWithin(parent, good)) {
            throw new IllegalStateException("the parent is the good itself or below it");
        }
        if (levelOf(parent) + levelsWithin(good) >= LEVELS) {
            throw new IllegalStateException("some good would be too deep");
        }
        int before = parents[good];
        parents[good] = parent;
        return before;
    }

    public void delete(int good) throws IndexOutOfBoundsException, IllegalStateException {
        checkGood(good);
        if (isParent(good)) {
            throw new IllegalStateException("the good is the parent of a good");
        }
        if (isPart(good)) {
            throw new IllegalStateException("the good is a part of a good");
        }
        // A deleted good keeps no parent, parts or drafts, so that it has no values and no price.
        exists[good] = false;
        parents[good] = NONE;
        for (int part = 0; part < MAX_GOODS; part++) {
            quantities[good * MAX_GOODS + part] = 0;
        }
        deleteDraftsOf(good);
        settleHolders();
    }

    public int addPart(int good, int part, int quantity)
            throws IndexOutOfBoundsException, IllegalArgumentException, IllegalStateException {
        checkGood(good);
        checkGood(part);
        if (part >= good) {
            throw new IllegalArgumentException("the part is not lower than the good");
        }
        if (quantity < 1 || quantity > MAX_QUANTITY) {
            throw new IllegalArgumentException("the quantity is out of range");
        }
        int entry = good * MAX_GOODS + part;
        int total = quantities[entry] + quantity;
        if (total > MAX_QUANTITY) {
            throw new IllegalStateException("the quantity of the part would be more than 20");
        }
        quantities[entry] = total;
        return total;
    }

    public int setDiscount(int good, int discount) throws IndexOutOfBoundsException, IllegalArgumentException {
        checkGood(good);
        if (discount < 0 || discount > MAX_DISCOUNT) {
            throw new IllegalArgumentException("the discount is out of range");
        }
        int before = discounts[good];
        discounts[good] = discount;
        return before;
    }

    private boolean isGood(int good) {
        return good >= 0 && good < MAX_GOODS && exists[good];
    }

    private void checkGood(int good) {
        if (!isGood(good)) {
            throw new IndexOutOfBoundsException("no such good");
        }
    }

    private void checkParent(int parent) {
        if (parent != NONE && !isGood(parent)) {
            throw new IndexOutOfBoundsException("the parent is neither -1 nor a good");
        }
    }

    /** The level of a good; one less than the uppermost level for NONE, so that a child is one deeper always. */
    private int levelOf(int good) {
        int level = -1;
        int at = good;
        for (int step = 0; step < LEVELS && isGood(at); step++) {
            level++;
            at = parents[at];
        }
        return level;
    }

    /** Whether a good (or NONE) is the top or below it. */
    private boolean isWithin(int good, int top) {
        int at = good;
        for (int step = 0; step < LEVELS && isGood(at); step++) {
            if (at == top) {
                return true;
            }
            at = parents[at];
        }
        return false;
    }

    /** How many levels the top and the goods below it take. */
    private int levelsWithin(int top) {
        int deepest = levelOf(top);
        for (int good = 0; good < MAX_GOODS; good++) {
            if (isWithin(good, top)) {
                deepest = Math.max(deepest, levelOf(good));
            }
        }
        return deepest - levelOf(top) + 1;
    }

    private boolean isParent(int good) {
        for (int child = 0; child < MAX_GOODS; child++) {
            if (parents[child] == good) {
                return true;
            }
        }
        return false;
    }

    private boolean isPart(int part) {
        for (int good = 0; good < MAX_GOODS; good++) {
            if (quantities[good * MAX_GOODS + part] > 0) {
                return true;
            }
        }
        return false;
    }

    // ---- drafts

    public int draft(int good, int attribute, int shop, int tongue, int value, int day)
            throws IndexOutOfBoundsException, IllegalArgumentException, IllegalStateException {
        checkGood(good);
        checkAttribute(attribute);
        if (shop != ALL) {
            checkShop(shop);
        }
        if (tongue != ALL) {
            checkTongue(tongue);
        }
        if (value != NONE && (value < 0 || value > MAX_VALUE)) {
            throw new IllegalArgumentException("the value is out of range");
        }
        if (day < 0 || day > MAX_DRAFT_DAY) {
            throw new IllegalArgumentException("the day is out of range");
        }
        if (draftCount >= MAX_DRAFTS) {
            throw new IllegalStateException("there have been 200 drafts");
        }
        int draft = draftCount;
        draftCount++;
        draftGoods[draft] = good;
        draftPlaces[draft] = placeOf(good, attribute, shop, tongue);
        draftValues[draft] = value;
        draftDays[draft] = day;
        draftStates[draft] = OPEN;
        return draft;
    }

    public boolean approve(int draft) throws IndexOutOfBoundsException, IllegalStateException {
        checkDraft(draft);
        if (draftStates[draft] != OPEN) {
            throw new IllegalStateException("the draft is not open");
        }
        draftStates[draft] = APPROVED;
        settleHolders();
        return holdsAtItsPlace(draft);
    }

    public boolean reject(int draft) throws IndexOutOfBoundsException, IllegalStateException {
        checkDraft(draft);
        if (draftStates[draft] == REJECTED) {
            throw new IllegalStateException("the draft is rejected");
        }
        boolean held = holdsAtItsPlace(draft);
        draftStates[draft] = REJECTED;
        settleHolders();
        return held;
    }

    public int pass(int days) throws IllegalArgumentException {
        if (days < 1 || days > MAX_PASS) {
            throw new IllegalArgumentException("the days are out of range");
        }
        today += days;
        settleHolders();
        return today;
    }

    private boolean isEntered(int draft) {
        return draft >= 0 && draft < draftCount;
    }

    private void checkDraft(int draft) {
        if (!isEntered(draft) || draftStates[draft] == DELETED) {
            throw new IndexOutOfBoundsException("no such draft");
        }
    }

    /** ALL is -1: it comes ahead of shop 0 and of tongue 0, so that both count from 1 here. */
    private static int placeOf(int good, int attribute, int shop, int tongue) {
        int row = good * ATTRIBUTES + attribute;
        int column = (shop + 1) * (TONGUES + 1) + tongue + 1;
        return row * PLACES_PER_ATTRIBUTE + column;
    }

    private boolean holdsAtItsPlace(int draft) {
        return holders[draftPlaces[draft]] == draft;
    }

    private void deleteDraftsOf(int good) {
        for (int draft = 0; draft < draftCount; draft++) {
            if (draftGoods[draft] == good) {
                draftStates[draft] = DELETED;
            }
        }
    }

    /** Finds anew which draft holds at each place: to be called whenever a draft's state or the day has changed. */
    private void settleHolders() {
        for (int place = 0; place < holders.length; place++) {
            holders[place] = NONE;
        }
        for (int draft = 0; draft < draftCount; draft++) {
            if (draftStates[draft] == APPROVED && draftDays[draft] <= today) {
                putHolder(draft);
            }
        }
    }

    /** Drafts come in the order of their numbers, so that of two with the same day the later one stays. */
    private void putHolder(int draft) {
        int place = draftPlaces[draft];
        int rival = holders[place];
        if (!isEntered(rival) || draftDays[draft] >= draftDays[rival]) {
            holders[place] = draft;
        }
    }

    // ---- values

    public int value(int good, int attribute, int shop, int tongue)
            throws IndexOutOfBoundsException, IllegalStateException {
        checkSight(good, attribute, shop, tongue);
        int value = findValue(good, attribute, shop, tongue);
        if (value == NONE) {
            throw new IllegalStateException("there is no value");
        }
        return value;
    }

    public int origin(int good, int attribute, int shop, int tongue) throws IndexOutOfBoundsException {
        checkSight(good, attribute, shop, tongue);
        return findOrigin(good, attribute, shop, tongue);
    }

    public int told(int good) throws IndexOutOfBoundsException {
        checkGood(good);
        int first = good * PLACES_PER_GOOD;
        int count = 0;
        for (int place = 0; place < PLACES_PER_GOOD; place++) {
            if (holders[first + place] != NONE) {
                count++;
            }
        }
        return count;
    }

    public boolean toggleAsked(int shop, int attribute) throws IndexOutOfBoundsException {
        checkShop(shop);
        checkAttribute(attribute);
        int entry = shop * ATTRIBUTES + attribute;
        asked[entry] = !asked[entry];
        return asked[entry];
    }

    public int missing(int good, int shop, int tongue) throws IndexOutOfBoundsException {
        checkGood(good);
        checkShop(shop);
        checkTongue(tongue);
        return findMissing(good, shop, tongue);
    }

    public int complete(int shop) throws IndexOutOfBoundsException {
        checkShop(shop);
        int count = 0;
        for (int good = 0; good < MAX_GOODS; good++) {
            if (exists[good] && isComplete(good, shop)) {
                count++;
            }
        }
        return count;
    }

    public int price(int good, int shop) throws IndexOutOfBoundsException, IllegalStateException {
        checkGood(good);
        checkShop(shop);
        int price = findPrice(good, shop);
        if (price == NONE) {
            throw new IllegalStateException("there is no price, or one that counts for it is too high");
        }
        return price;
    }

    private static void checkAttribute(int attribute) {
        if (attribute < 0 || attribute >= ATTRIBUTES) {
            throw new IndexOutOfBoundsException("no such attribute");
        }
    }

    private static void checkShop(int shop) {
        if (shop < 0 || shop >= SHOPS) {
            throw new IndexOutOfBoundsException("no such shop");
        }
    }

    private static void checkTongue(int tongue) {
        if (tongue < 0 || tongue >= TONGUES) {
            throw new IndexOutOfBoundsException("no such tongue");
        }
    }

    private void checkSight(int good, int attribute, int shop, int tongue) {
        checkGood(good);
        checkAttribute(attribute);
        checkShop(shop);
        checkTongue(tongue);
    }

    private int findValue(int good, int attribute, int shop, int tongue) {
        int origin = findOrigin(good, attribute, shop, tongue);
        return isEntered(origin) ? draftValues[origin] : NONE;
    }

    private int findOrigin(int good, int attribute, int shop, int tongue) {
        int at = good;
        for (int step = 0; step < LEVELS && isGood(at); step++) {
            int origin = findOwnOrigin(at, attribute, shop, tongue);
            if (origin != NONE) {
                return origin;
            }
            at = parents[at];
        }
        return NONE;
    }

    /** The origin among the places of the good itself. */
    private int findOwnOrigin(int good, int attribute, int shop, int tongue) {
        int origin = holders[placeOf(good, attribute, shop, tongue)];
        if (origin == NONE) {
            origin = holders[placeOf(good, attribute, shop, ALL)];
        }
        if (origin == NONE) {
            origin = holders[placeOf(good, attribute, ALL, tongue)];
        }
        if (origin == NONE) {
            origin = holders[placeOf(good, attribute, ALL, ALL)];
        }
        return origin;
    }

    private int findMissing(int good, int shop, int tongue) {
        int set = 0;
        for (int attribute = 0; attribute < ATTRIBUTES; attribute++) {
            if (asked[shop * ATTRIBUTES + attribute] && findValue(good, attribute, shop, tongue) == NONE) {
                set |= 1 << attribute;
            }
        }
        return set;
    }

    private boolean isComplete(int good, int shop) {
        for (int tongue = 0; tongue < TONGUES; tongue++) {
            if (findMissing(good, shop, tongue) != 0) {
                return false;
            }
        }
        return true;
    }

    /** Parts have lower numbers than their good, so that the prices are found upwards from good 0. */
    private int findPrice(int good, int shop) {
        for (int at = 0; at <= good; at++) {
            int own = findValue(at, PRICE, shop, PRICE_TONGUE);
            prices[at] = own == NONE ? sumUpParts(at) : own;
        }
        return prices[good];
    }

    /**
     * The price of a good out of the prices of its parts. One that is too high counts as none,
     * because each price for which it would count is refused just like one that is not there.
     */
    private int sumUpParts(int good) {
        boolean hasParts = false;
        long sum = 0;
        for (int part = 0; part < good; part++) {
            int quantity = quantities[good * MAX_GOODS + part];
            if (quantity > 0) {
                if (prices[part] == NONE) {
                    return NONE;
                }
                hasParts = true;
                sum += (long) prices[part] * quantity;
            }
        }
        long price = sum * (100 - discounts[good]) / 100;
        return hasParts && price <= MAX_PRICE ? (int) price : NONE;
    }

    // ---- feeds

    public int changed(int shop) throws IndexOutOfBoundsException {
        checkShop(shop);
        return findChanged(shop);
    }

    public int feed(int shop) throws IndexOutOfBoundsException {
        checkShop(shop);
        int goods = findChanged(shop);
        for (int good = 0; good < MAX_GOODS; good++) {
            rememberSights(good, shop);
        }
        return Integer.bitCount(goods);
    }

    private int findChanged(int shop) {
        int set = 0;
        for (int good = 0; good < MAX_GOODS; good++) {
            if (looksChanged(good, shop)) {
                set |= 1 << good;
            }
        }
        return set;
    }

    private boolean looksChanged(int good, int shop) {
        int first = shop * SIGHTS_PER_SHOP + good * SIGHTS_PER_GOOD;
        for (int sight = 0; sight < SIGHTS_PER_GOOD; sight++) {
            if (seen[first + sight] != findValue(good, sight / TONGUES, shop, sight % TONGUES)) {
                return true;
            }
        }
        return false;
    }

    private void rememberSights(int good, int shop) {
        int first = shop * SIGHTS_PER_SHOP + good * SIGHTS_PER_GOOD;
        for (int sight = 0; sight < SIGHTS_PER_GOOD; sight++) {
            seen[first + sight] = findValue(good, sight / TONGUES, shop, sight % TONGUES);
        }
    }
}
