import java.util.ArrayList;
import java.util.Arrays;
import java.util.List;

/** The document's words put down with objects, searched anew at each call: what ShopHub is compared with. */
final class PlainHub {
    private static final class Good {
        Good parent;
        boolean deleted;
        int number;
        int discount;
        int[] quantities = new int[16];

        int level() {
            return parent == null ? 0 : parent.level() + 1;
        }

        boolean isBelow(Good other) {
            return parent != null && (parent == other || parent.isBelow(other));
        }
    }

    private static final class Draft {
        Good good;
        int number;
        int attribute;
        int shop;
        int tongue;
        int value;
        int day;
        String state = "open";

        boolean isAt(Good g, int a, int s, int t) {
            return good == g && attribute == a && shop == s && tongue == t;
        }

        boolean beats(Draft other) {
            return other == null || day > other.day || day == other.day && number > other.number;
        }
    }

    private final List<Good> goods = new ArrayList<>();
    private final List<Draft> drafts = new ArrayList<>();
    private final boolean[][] asked = new boolean[3][6];
    private final String[][] fed = new String[3][16];
    private int today;

    PlainHub() {
        for (String[] row : fed) {
            Arrays.fill(row, sights(null, 0));
        }
    }

    int addGood(int parent) {
        Good above = parent == -1 ? null : good(parent);
        possible(above == null || above.level() < 2);
        possible(goods.size() < 16);
        Good added = new Good();
        added.parent = above;
        added.number = goods.size();
        goods.add(added);
        return added.number;
    }

    int move(int good, int parent) {
        Good moved = good(good);
        Good above = parent == -1 ? null : good(parent);
        possible(above == null || above != moved && !above.isBelow(moved));
        Good before = moved.parent;
        moved.parent = above;
        boolean fits = true;
        for (Good each : goods) {
            fits &= each.deleted || each.level() <= 2;
        }
        if (!fits) {
            moved.parent = before;
        }
        possible(fits);
        return before == null ? -1 : before.number;
    }

    void delete(int good) {
        Good gone = good(good);
        for (Good each : goods) {
            possible(each.deleted || each.parent != gone && each.quantities[good] == 0);
        }
        gone.deleted = true;
    }

    int addPart(int good, int part, int quantity) {
        Good whole = good(good);
        good(part);
        inRange(part < good);
        inRange(1 <= quantity && quantity <= 20);
        possible(whole.quantities[part] + quantity <= 20);
        whole.quantities[part] += quantity;
        return whole.quantities[part];
    }

    int setDiscount(int good, int discount) {
        Good set = good(good);
        inRange(0 <= discount && discount <= 100);
        int before = set.discount;
        set.discount = discount;
        return before;
    }

    int draft(int good, int attribute, int shop, int tongue, int value, int day) {
        Draft entered = new Draft();
        entered.good = good(good);
        index(attribute, 0, 5);
        index(shop, -1, 2);
        index(tongue, -1, 2);
        inRange(-1 <= value && value <= 100000);
        inRange(0 <= day && day <= 1000);
        possible(drafts.size() < 200);
        entered.attribute = attribute;
        entered.shop = shop;
        entered.tongue = tongue;
        entered.value = value;
        entered.day = day;
        entered.number = drafts.size();
        drafts.add(entered);
        return entered.number;
    }

    boolean approve(int draft) {
        Draft approved = find(draft);
        possible(approved.state.equals("open"));
        approved.state = "approved";
        return holds(approved);
    }

    boolean reject(int draft) {
        Draft rejected = find(draft);
        possible(!rejected.state.equals("rejected"));
        boolean held = holds(rejected);
        rejected.state = "rejected";
        return held;
    }

    int pass(int days) {
        inRange(1 <= days && days <= 100);
        today += days;
        return today;
    }

    int value(int good, int attribute, int shop, int tongue) {
        Draft found = checkedOrigin(good, attribute, shop, tongue);
        possible(found != null && found.value >= 0);
        return found.value;
    }

    int origin(int good, int attribute, int shop, int tongue) {
        Draft found = checkedOrigin(good, attribute, shop, tongue);
        return found == null ? -1 : found.number;
    }

    int told(int good) {
        Good asked = good(good);
        int places = 0;
        for (Draft each : drafts) {
            places += each.good == asked && holds(each) ? 1 : 0;
        }
        return places;
    }

    boolean toggleAsked(int shop, int attribute) {
        index(shop, 0, 2);
        index(attribute, 0, 5);
        asked[shop][attribute] ^= true;
        return asked[shop][attribute];
    }

    int missing(int good, int shop, int tongue) {
        Good looked = good(good);
        index(shop, 0, 2);
        index(tongue, 0, 2);
        int set = 0;
        for (int attribute = 0; attribute < 6; attribute++) {
            if (asked[shop][attribute] && sight(looked, attribute, shop, tongue) < 0) {
                set += 1 << attribute;
            }
        }
        return set;
    }

    int complete(int shop) {
        index(shop, 0, 2);
        int count = 0;
        for (Good each : goods) {
            if (!each.deleted) {
                int g = each.number;
                count += missing(g, shop, 0) + missing(g, shop, 1) + missing(g, shop, 2) == 0 ? 1 : 0;
            }
        }
        return count;
    }

    int price(int good, int shop) {
        Good priced = good(good);
        index(shop, 0, 2);
        return (int) price(priced, shop);
    }

    int changed(int shop) {
        index(shop, 0, 2);
        int set = 0;
        for (Good each : goods) {
            set += fed[shop][each.number].equals(sights(each, shop)) ? 0 : 1 << each.number;
        }
        return set;
    }

    int feed(int shop) {
        int count = Integer.bitCount(changed(shop));
        for (Good each : goods) {
            fed[shop][each.number] = sights(each, shop);
        }
        return count;
    }

    private long price(Good good, int shop) {
        int own = sight(good, 0, shop, 0);
        if (own >= 0) {
            return own;
        }
        long sum = 0;
        boolean hasParts = false;
        for (int part = 0; part < 16; part++) {
            if (good.quantities[part] > 0) {
                hasParts = true;
                sum += price(goods.get(part), shop) * good.quantities[part];
            }
        }
        possible(hasParts);
        long price = sum * (100 - good.discount) / 100;
        possible(price <= 1000000000);
        return price;
    }

    private String sights(Good good, int shop) {
        StringBuilder text = new StringBuilder();
        for (int attribute = 0; attribute < 6; attribute++) {
            for (int tongue = 0; tongue < 3; tongue++) {
                boolean nothing = good == null || good.deleted;
                text.append(nothing ? -1 : sight(good, attribute, shop, tongue)).append(' ');
            }
        }
        return text.toString();
    }

    private int sight(Good good, int attribute, int shop, int tongue) {
        Draft found = origin(good, attribute, shop, tongue);
        return found == null ? -1 : found.value;
    }

    private Draft checkedOrigin(int good, int attribute, int shop, int tongue) {
        Good looked = good(good);
        index(attribute, 0, 5);
        index(shop, 0, 2);
        index(tongue, 0, 2);
        return origin(looked, attribute, shop, tongue);
    }

    private Draft origin(Good good, int attribute, int shop, int tongue) {
        if (good == null) {
            return null;
        }
        int[][] places = {{shop, tongue}, {shop, -1}, {-1, tongue}, {-1, -1}};
        for (int[] place : places) {
            Draft found = holder(good, attribute, place[0], place[1]);
            if (found != null) {
                return found;
            }
        }
        return origin(good.parent, attribute, shop, tongue);
    }

    private Draft holder(Good good, int attribute, int shop, int tongue) {
        Draft best = null;
        for (Draft each : drafts) {
            boolean counts = each.state.equals("approved") && each.day <= today;
            if (counts && each.isAt(good, attribute, shop, tongue) && each.beats(best)) {
                best = each;
            }
        }
        return best;
    }

    private boolean holds(Draft draft) {
        return holder(draft.good, draft.attribute, draft.shop, draft.tongue) == draft;
    }

    private Good good(int number) {
        index(number, 0, goods.size() - 1);
        if (goods.get(number).deleted) {
            throw new IndexOutOfBoundsException();
        }
        return goods.get(number);
    }

    private Draft find(int number) {
        index(number, 0, drafts.size() - 1);
        good(drafts.get(number).good.number);
        return drafts.get(number);
    }

    private static void index(int number, int lowest, int highest) {
        if (number < lowest || number > highest) {
            throw new IndexOutOfBoundsException();
        }
    }

    private static void inRange(boolean so) {
        if (!so) {
            throw new IllegalArgumentException();
        }
    }

    private static void possible(boolean so) {
        if (!so) {
            throw new IllegalStateException();
        }
    }
}
