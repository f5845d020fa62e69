/** Arguments that stand just outside what is allowed, and the least and the greatest int, for Hubs.busy(). */
final class Wrong {
    private static final int MIN = Integer.MIN_VALUE;
    private static final int MAX = Integer.MAX_VALUE;

    /** 6 is the deleted one, 8 the next that would be added. */
    static final int[] GOODS = {MIN, -1, 6, 8, 15, 16, MAX};
    static final int[] PARENTS = {MIN, -2, 6, 8, 15, 16, MAX};
    /** 9 and 10 were for the deleted good, 13 is the next that would be entered. */
    static final int[] DRAFTS = {MIN, -1, 9, 10, 13, 199, 200, MAX};
    static final int[] ATTRIBUTES = {MIN, -1, 6, MAX};
    static final int[] SHOPS = {MIN, -1, 3, MAX};
    static final int[] TONGUES = {MIN, -1, 3, MAX};
    /** Where -1 stands for all of them. */
    static final int[] SHOPS_OR_ALL = {MIN, -2, 3, MAX};
    static final int[] TONGUES_OR_ALL = {MIN, -2, 3, MAX};
    static final int[] QUANTITIES = {MIN, -1, 0, 21, MAX};
    static final int[] DISCOUNTS = {MIN, -1, 101, MAX};
    static final int[] VALUES = {MIN, -2, 100001, MAX};
    static final int[] DAYS = {MIN, -1, 1001, MAX};
    static final int[] DAYS_TO_PASS = {MIN, -1, 0, 101, MAX};

    private Wrong() {
    }
}
