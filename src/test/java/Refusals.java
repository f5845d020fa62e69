import java.util.ArrayList;
import java.util.List;

/**
 * Refused calls, each made on new hubs of one start: that the exception is the one that is due, and that later
 * calls answer as if the refused one had not been made. Each hub gets less than the 512 calls that are promised.
 */
final class Refusals {
    interface Start {
        ShopHub make();
    }

    interface Deed {
        void on(ShopHub hub);
    }

    private interface Look {
        Object at(ShopHub hub);
    }

    private record Later(String call, Look look) {
    }

    private static final int GOODS = 16;
    private static final int DRAFTS = 200;
    private static final int CALLS_PER_HUB = 200;

    private final Start start;
    private final List<List<Later>> rounds = new ArrayList<>();
    private final List<List<String>> dueAnswers = new ArrayList<>();

    Refusals(Start start) {
        this.start = start;
        splitUp(looks());
        rounds.add(moves());
        rounds.add(deletions());
        rounds.add(parts());
        rounds.add(draftsOfEachGood());
        rounds.add(approvals());
        rounds.add(rejections());
        rounds.add(days());
        rounds.add(questionsAndFeeds());
        for (List<Later> round : rounds) {
            dueAnswers.add(answers(start.make(), round));
        }
    }

    void index(String call, Deed refused) {
        refuses(IndexOutOfBoundsException.class, call, refused);
    }

    void argument(String call, Deed refused) {
        refuses(IllegalArgumentException.class, call, refused);
    }

    void state(String call, Deed refused) {
        refuses(IllegalStateException.class, call, refused);
    }

    private void refuses(Class<?> kind, String call, Deed refused) {
        for (int round = 0; round < rounds.size(); round++) {
            ShopHub hub = start.make();
            Check.due("throws " + kind.getName(), call, () -> {
                refused.on(hub);
                return "nothing thrown";
            });
            compare(round, answers(hub, rounds.get(round)), call);
        }
    }

    private void compare(int round, List<String> answers, String refusedCall) {
        for (int i = 0; i < answers.size(); i++) {
            String answer = answers.get(i);
            String call = rounds.get(round).get(i).call + " behind " + refusedCall;
            Check.due(dueAnswers.get(round).get(i), call, () -> answer);
        }
    }

    private static List<String> answers(ShopHub hub, List<Later> round) {
        List<String> answers = new ArrayList<>();
        for (Later later : round) {
            answers.add(Check.answerOf(() -> later.look.at(hub)));
        }
        return answers;
    }

    private static void add(List<Later> round, String call, Look look) {
        round.add(new Later(call, look));
    }

    private void splitUp(List<Later> looks) {
        for (int from = 0; from < looks.size(); from += CALLS_PER_HUB) {
            rounds.add(looks.subList(from, Math.min(from + CALLS_PER_HUB, looks.size())));
        }
    }

    private static List<Later> looks() {
        List<Later> looks = new ArrayList<>();
        for (int shop = 0; shop < 3; shop++) {
            int s = shop;
            add(looks, "changed " + s, hub -> hub.changed(s));
            add(looks, "complete " + s, hub -> hub.complete(s));
            for (int good = 0; good < GOODS; good++) {
                int g = good;
                add(looks, "price " + g + " " + s, hub -> hub.price(g, s));
                addSights(looks, g, s);
            }
        }
        for (int good = 0; good < GOODS; good++) {
            int g = good;
            add(looks, "told " + g, hub -> hub.told(g));
        }
        return looks;
    }

    private static void addSights(List<Later> looks, int good, int shop) {
        for (int tongue = 0; tongue < 3; tongue++) {
            int t = tongue;
            add(looks, "missing " + good + " " + shop + " " + t, hub -> hub.missing(good, shop, t));
            for (int attribute = 0; attribute < 6; attribute++) {
                int a = attribute;
                String sight = good + " " + a + " " + shop + " " + t;
                add(looks, "value " + sight, hub -> hub.value(good, a, shop, t));
                add(looks, "origin " + sight, hub -> hub.origin(good, a, shop, t));
            }
        }
    }

    private static List<Later> moves() {
        List<Later> round = new ArrayList<>();
        add(round, "addGood", hub -> hub.addGood(-1));
        for (int good = 0; good < GOODS; good++) {
            int g = good;
            add(round, "addGood " + g, hub -> hub.addGood(g));
            add(round, "move " + g, hub -> hub.move(g, -1));
            add(round, "setDiscount " + g, hub -> hub.setDiscount(g, 1));
        }
        return round;
    }

    private static List<Later> deletions() {
        List<Later> round = new ArrayList<>();
        for (int turn = 0; turn < 2 * GOODS; turn++) {
            int g = GOODS - 1 - turn % GOODS;
            add(round, "delete " + g, hub -> {
                hub.delete(g);
                return "nothing thrown";
            });
        }
        return round;
    }

    private static List<Later> parts() {
        List<Later> round = new ArrayList<>();
        for (int good = 0; good < GOODS; good++) {
            for (int part = 0; part < good; part++) {
                int g = good;
                int p = part;
                add(round, "addPart " + g + " " + p, hub -> hub.addPart(g, p, 1));
            }
        }
        return round;
    }

    private static List<Later> draftsOfEachGood() {
        List<Later> round = new ArrayList<>();
        for (int good = 0; good < GOODS; good++) {
            int g = good;
            add(round, "draft " + g, hub -> hub.draft(g, 0, -1, -1, 1, 0));
        }
        return round;
    }

    private static List<Later> approvals() {
        List<Later> round = new ArrayList<>();
        for (int draft = 0; draft < DRAFTS; draft++) {
            int d = draft;
            add(round, "approve " + d, hub -> hub.approve(d));
        }
        return round;
    }

    private static List<Later> rejections() {
        List<Later> round = new ArrayList<>();
        for (int draft = 0; draft < DRAFTS; draft++) {
            int d = draft;
            add(round, "reject " + d, hub -> hub.reject(d));
        }
        return round;
    }

    private static List<Later> days() {
        List<Later> round = new ArrayList<>();
        for (int turn = 0; turn < 4; turn++) {
            add(round, "pass", hub -> hub.pass(1));
            for (int good = 0; good < GOODS; good++) {
                int g = good;
                add(round, "told " + g, hub -> hub.told(g));
            }
        }
        return round;
    }

    private static List<Later> questionsAndFeeds() {
        List<Later> round = new ArrayList<>();
        for (int shop = 0; shop < 3; shop++) {
            int s = shop;
            for (int attribute = 0; attribute < 6; attribute++) {
                int a = attribute;
                add(round, "toggleAsked " + s + " " + a, hub -> hub.toggleAsked(s, a));
            }
            add(round, "feed " + s, hub -> hub.feed(s));
            add(round, "feed again " + s, hub -> hub.feed(s));
        }
        return round;
    }
}
