import java.util.ArrayDeque;
import java.util.ArrayList;
import java.util.Comparator;
import java.util.Deque;
import java.util.List;
import java.util.regex.Matcher;
import java.util.regex.Pattern;

/** The document told a second time, with the Java library and without a thought of room or speed. */
final class PlainLeague {
    private static final int NONE = -1011;
    private static final int BAD = -1012;
    private static final int FULL = -1013;
    private static final int REFUSED = -1014;
    private static final int NOTHING = -1015;
    private static final Pattern TEXT;

    static {
        String order = "(h\\d\\d|m\\d\\d\\d|s\\d:\\d|r\\d|a|b\\d=\\d\\d?|c\\d|p\\d|u\\d|t\\d)";
        TEXT = Pattern.compile(order + "(;" + order + ")*");
    }

    private static final class Chair {
        int number;
        int section;
        int need;
        int cushion;
        int stand = 3;
        int tier;
        int marks;

        int comfort() {
            return cushion + 3 * tier;
        }
    }

    private static final class Player {
        int number;
        int section;
        int skill;
        int demand;
        int coins = 8;
        int bid;
        int chair = -1;
        int played;
    }

    /** All that changes can change. */
    private static final class World {
        final List<Chair> chairs = new ArrayList<>();
        final List<Player> players = new ArrayList<>();
        int[] sums = {10, 0, 0, 0, 0, 0, 0}; // as the accounts 5 to 11

        World copy() {
            World copy = new World();
            for (Chair c : chairs) {
                Chair d = new Chair();
                d.number = c.number;
                d.section = c.section;
                d.need = c.need;
                d.cushion = c.cushion;
                d.stand = c.stand;
                d.tier = c.tier;
                d.marks = c.marks;
                copy.chairs.add(d);
            }
            for (Player p : players) {
                Player q = new Player();
                q.number = p.number;
                q.section = p.section;
                q.skill = p.skill;
                q.demand = p.demand;
                q.coins = p.coins;
                q.bid = p.bid;
                q.chair = p.chair;
                q.played = p.played;
                copy.players.add(q);
            }
            copy.sums = sums.clone();
            return copy;
        }

        int on(Chair c) {
            for (Player p : players) {
                if (p.chair == c.number) {
                    return p.number;
                }
            }
            return -1;
        }

        List<Player> sitting() {
            return players.stream().filter(p -> p.chair >= 0).toList();
        }

        int fallen() {
            return (int) chairs.stream().filter(c -> c.stand == 0).count();
        }
    }

    private World world = new World();
    private World saved;
    private final Deque<World> past = new ArrayDeque<>();
    private String text = "";
    private String line = "";
    private List<int[]> reasons = List.of();
    private int turn = 1;

    private static int fitOf(Chair c, Player p) {
        return 9 - Math.max(c.need - p.skill, p.skill - c.need) + (c.section == p.section ? 4 : 0);
    }

    private Chair chairAt(int chair) {
        return chair < 0 || chair >= world.chairs.size() ? null : world.chairs.get(chair);
    }

    private Player playerAt(int player) {
        return player < 0 || player >= world.players.size() ? null : world.players.get(player);
    }

    private int because(int... reasonsAndDetails) {
        List<int[]> told = new ArrayList<>();
        for (int k = 0; k < reasonsAndDetails.length; k += 2) {
            told.add(new int[] {reasonsAndDetails[k], reasonsAndDetails[k + 1]});
        }
        reasons = told;
        return REFUSED;
    }

    private static boolean isOut(int number, int least, int most) {
        return number < least || number > most;
    }

    private interface Deed {
        int done();
    }

    private int change(Deed deed) {
        World before = world.copy();
        int answer = deed.done();
        if (answer < 0) {
            world = before;
        } else {
            past.addLast(before);
            if (past.size() > 8) {
                past.removeFirst();
            }
        }
        return answer;
    }

    int chair(int section, int need) {
        return change(() -> doChair(section, need));
    }

    private int doChair(int section, int need) {
        if (isOut(section, 0, 3) || isOut(need, 1, 9)) {
            return BAD;
        }
        if (world.chairs.size() == 10) {
            return because(1, 10);
        }
        Chair c = new Chair();
        c.number = world.chairs.size();
        c.section = section;
        c.need = need;
        world.chairs.add(c);
        return c.number;
    }

    int musician(int section, int skill, int demand) {
        return change(() -> doMusician(section, skill, demand));
    }

    private int doMusician(int section, int skill, int demand) {
        if (isOut(section, 0, 3) || isOut(skill, 1, 9) || isOut(demand, 0, 9)) {
            return BAD;
        }
        if (world.players.size() == 10) {
            return because(1, 10);
        }
        Player p = new Player();
        p.number = world.players.size();
        p.section = section;
        p.skill = skill;
        p.demand = demand;
        world.players.add(p);
        return p.number;
    }

    int chairOf(int chair, int what) {
        Chair c = chairAt(chair);
        if (c == null) {
            return NONE;
        }
        int sitter = world.on(c);
        int[] numbers = {c.section, c.need, c.cushion, c.stand, c.tier, c.comfort(), c.marks,
            sitter < 0 ? NOTHING : sitter};
        return isOut(what, 0, 7) ? BAD : numbers[what];
    }

    int musicianOf(int musician, int what) {
        Player p = playerAt(musician);
        if (p == null) {
            return NONE;
        }
        int[] numbers = {p.section, p.skill, p.demand, p.coins, p.bid,
            p.chair < 0 ? NOTHING : p.chair, p.played};
        return isOut(what, 0, 6) ? BAD : numbers[what];
    }

    int fit(int chair, int musician) {
        Chair c = chairAt(chair);
        Player p = playerAt(musician);
        return c == null || p == null ? NONE : fitOf(c, p);
    }

    int seat(int chair, int musician) {
        return change(() -> doSeat(chair, musician));
    }

    private int doSeat(int chair, int musician) {
        Chair c = chairAt(chair);
        Player p = playerAt(musician);
        if (c == null || p == null) {
            return NONE;
        }
        if (c.stand == 0) {
            return because(2, musician, 3, world.fallen());
        }
        if (world.on(c) >= 0) {
            return because(2, musician, 4, world.on(c));
        }
        if (p.chair >= 0) {
            return because(2, musician, 5, p.chair);
        }
        if (fitOf(c, p) < 6) {
            return because(2, musician, 6, fitOf(c, p));
        }
        if (c.comfort() < p.demand) {
            return because(2, musician, 7, c.comfort());
        }
        p.chair = chair;
        return world.sitting().size();
    }

    int rise(int musician) {
        return change(() -> doRise(musician));
    }

    private int doRise(int musician) {
        Player p = playerAt(musician);
        if (p == null) {
            return NONE;
        }
        if (p.chair < 0) {
            return because(8, world.sitting().size());
        }
        int chair = p.chair;
        p.chair = -1;
        p.bid = 0;
        return chair;
    }

    /** By chair, who would sit there; chairs ask in an order that is another one each time. */
    private int[] asked() {
        int chairs = world.chairs.size();
        int[] sitter = new int[chairs];
        java.util.Arrays.fill(sitter, -1);
        int[] place = new int[world.players.size()];
        java.util.Arrays.fill(place, -1);
        List<List<Player>> wishes = new ArrayList<>();
        for (Chair c : world.chairs) {
            List<Player> wish = new ArrayList<>();
            if (c.stand > 0) {
                wish.addAll(world.players.stream().filter(p -> fitOf(c, p) >= 6)
                        .sorted(Comparator.comparing((Player p) -> -fitOf(c, p))
                                .thenComparing(p -> p.number)).toList());
            }
            wishes.add(wish);
        }
        while (true) {
            List<Chair> asking = world.chairs.stream()
                    .filter(c -> sitter[c.number] < 0 && !wishes.get(c.number).isEmpty()).toList();
            if (asking.isEmpty()) {
                return sitter;
            }
            turn = turn * 1103515245 + 12345;
            Chair c = asking.get((turn >>> 16) % asking.size());
            Player p = wishes.get(c.number).remove(0);
            if (p.demand > c.comfort()) {
                continue;
            }
            int old = place[p.number];
            if (old < 0 || rather(c, world.chairs.get(old))) {
                if (old >= 0) {
                    sitter[old] = -1;
                }
                sitter[c.number] = p.number;
                place[p.number] = c.number;
            }
        }
    }

    private static boolean rather(Chair c, Chair d) {
        return c.comfort() != d.comfort() ? c.comfort() > d.comfort() : c.number < d.number;
    }

    int season() {
        return change(this::doSeason);
    }

    private int doSeason() {
        int[] sitter = asked();
        for (Player p : world.players) {
            p.bid = 0;
            p.chair = -1;
        }
        for (int c = 0; c < sitter.length; c++) {
            if (sitter[c] >= 0) {
                world.players.get(sitter[c]).chair = c;
            }
        }
        world.sums[5]++;
        return world.sitting().size();
    }

    int would(int chair) {
        if (chairAt(chair) == null) {
            return NONE;
        }
        int musician = asked()[chair];
        return musician < 0 ? NOTHING : musician;
    }

    int restless() {
        int pairs = 0;
        for (Chair c : world.chairs) {
            int has = world.on(c);
            for (Player p : world.players) {
                boolean chairWould = has < 0 || fitOf(c, p) > fitOf(c, world.players.get(has))
                        || fitOf(c, p) == fitOf(c, world.players.get(has)) && p.number < has;
                boolean playerWould = p.chair < 0 || rather(c, world.chairs.get(p.chair));
                if (c.stand > 0 && fitOf(c, p) >= 6 && c.comfort() >= p.demand && chairWould
                        && playerWould) {
                    pairs++;
                }
            }
        }
        return pairs;
    }

    int bid(int musician, int coins) {
        return change(() -> doBid(musician, coins));
    }

    private int doBid(int musician, int coins) {
        Player p = playerAt(musician);
        if (p == null) {
            return NONE;
        }
        if (isOut(coins, 0, 99)) {
            return BAD;
        }
        if (p.chair < 0) {
            return because(8, world.sitting().size());
        }
        if (coins > p.coins) {
            return because(9, p.coins);
        }
        int before = p.bid;
        p.bid = coins;
        return before;
    }

    int sell(int cushion) {
        return change(() -> doSell(cushion));
    }

    private int doSell(int cushion) {
        if (isOut(cushion, 1, 9)) {
            return BAD;
        }
        List<Player> bidders = world.players.stream().filter(p -> p.bid > 0)
                .sorted(Comparator.comparing((Player p) -> -p.bid).thenComparing(p -> p.number))
                .toList();
        if (bidders.isEmpty()) {
            return because(10, world.sitting().size());
        }
        int price = bidders.size() > 1 ? bidders.get(1).bid : 0;
        Player buyer = bidders.get(0);
        buyer.coins -= price;
        world.sums[0] += price;
        world.chairs.get(buyer.chair).cushion = cushion;
        world.players.forEach(p -> p.bid = 0);
        world.sums[6]++;
        return price;
    }

    int concert(int weight) {
        return change(() -> doConcert(weight));
    }

    private int doConcert(int weight) {
        if (isOut(weight, 1, 4)) {
            return BAD;
        }
        List<Player> playing = world.sitting();
        if (playing.isEmpty()) {
            return because(11, world.players.size());
        }
        int fits = 0;
        for (Player p : playing) {
            Chair c = world.chairs.get(p.chair);
            int fit = fitOf(c, p);
            fits += fit;
            c.marks += fit;
            p.played++;
            world.sums[1] += fit / 3;
            p.coins += fit / 3;
            while (p.coins > 99) {
                p.coins--;
                world.sums[3]++;
            }
        }
        for (Player p : playing) {
            Chair c = world.chairs.get(p.chair);
            int wear = p.skill < c.need ? weight : weight == 4 ? 1 : 0;
            c.stand -= Math.min(c.stand, wear);
            if (c.stand == 0) {
                p.chair = -1;
                p.bid = 0;
            }
        }
        world.sums[4]++;
        return fits;
    }

    /** By giving the concerts, on a copy. */
    int lasts(int weight) {
        if (isOut(weight, 1, 4)) {
            return BAD;
        }
        World before = world;
        List<int[]> told = reasons;
        world = before.copy();
        int fallen = world.fallen();
        int answer = NOTHING;
        for (int concerts = 0; concerts < 10 && answer == NOTHING; concerts++) {
            doConcert(weight);
            if (world.fallen() > fallen) {
                answer = concerts;
            }
        }
        world = before;
        reasons = told;
        return answer;
    }

    int raise(int chair) {
        return change(() -> doRaise(chair));
    }

    private int doRaise(int chair) {
        Chair c = chairAt(chair);
        if (c == null) {
            return NONE;
        }
        if (c.stand >= 3) {
            return because(12, c.stand);
        }
        if (world.sums[0] < 2) {
            return because(9, world.sums[0]);
        }
        c.stand = 3;
        world.sums[0] -= 2;
        world.sums[2] += 2;
        return world.sums[0];
    }

    int promote(int chair) {
        return change(() -> doPromote(chair));
    }

    private int doPromote(int chair) {
        Chair c = chairAt(chair);
        if (c == null) {
            return NONE;
        }
        if (c.tier == 2) {
            return because(13, c.marks);
        }
        int lacking = (c.tier == 0 ? 20 : 40) - c.marks;
        if (lacking > 0) {
            return because(14, lacking);
        }
        return ++c.tier;
    }

    int hall(int tier) {
        if (isOut(tier, 0, 2)) {
            return BAD;
        }
        return world.chairs.stream().filter(c -> c.tier == tier)
                .mapToInt(c -> (int) Math.pow(2, c.number)).sum();
    }

    int ranked(int place) {
        List<Chair> order = world.chairs.stream().sorted(
                Comparator.comparing((Chair c) -> -c.marks).thenComparing(c -> -c.comfort())
                        .thenComparing(c -> c.number)).toList();
        return isOut(place, 0, order.size() - 1) ? NONE : order.get(place).number;
    }

    int richest(int place) {
        List<Player> order = world.players.stream().sorted(
                Comparator.comparing((Player p) -> -p.coins).thenComparing(p -> p.chair < 0)
                        .thenComparing(p -> p.number)).toList();
        return isOut(place, 0, order.size() - 1) ? NONE : order.get(place).number;
    }

    int append(int code) {
        if (isOut(code, 32, 126)) {
            return BAD;
        }
        if (text.length() == 60) {
            return FULL;
        }
        text += (char) code;
        return text.length();
    }

    /** The first character with which no text can continue: no such text begins so. */
    private static int faultOf(String text) {
        for (int length = 1; length <= text.length(); length++) {
            Matcher matcher = TEXT.matcher(text.substring(0, length));
            if (!matcher.matches() && !matcher.hitEnd()) {
                return length - 1;
            }
        }
        return TEXT.matcher(text).matches() ? -1 : text.length();
    }

    int run() {
        String orders = text;
        text = "";
        int fault = faultOf(orders);
        return fault >= 0 ? -2000 - fault : change(() -> doRun(orders.split(";")));
    }

    private int doRun(String[] orders) {
        for (int k = 0; k < orders.length; k++) {
            int answer = doOrder(orders[k]);
            if (answer == REFUSED) {
                List<int[]> told = new ArrayList<>(reasons);
                told.add(0, new int[] {15, k});
                reasons = told;
                return REFUSED;
            }
            if (answer < 0) {
                return because(15, k);
            }
        }
        return orders.length;
    }

    private int doOrder(String order) {
        int[] d = order.chars().filter(Character::isDigit).map(c -> c - '0').toArray();
        switch (order.charAt(0)) {
            case 'h': return doChair(d[0], d[1]);
            case 'm': return doMusician(d[0], d[1], d[2]);
            case 's': return doSeat(d[0], d[1]);
            case 'r': return doRise(d[0]);
            case 'a': return doSeason();
            case 'b': return doBid(d[0], Integer.parseInt(order.substring(3)));
            case 'c': return doSell(d[0]);
            case 'p': return doConcert(d[0]);
            case 'u': return doRaise(d[0]);
            default: return doPromote(d[0]);
        }
    }

    int tell(int chair) {
        Chair c = chairAt(chair);
        if (c == null) {
            return NONE;
        }
        line = c.number + "s" + c.section + "n" + c.need + "c" + c.cushion + "^".repeat(c.tier)
                + (c.stand == 0 ? "x" : "") + (world.on(c) < 0 ? "" : ":" + world.on(c));
        return line.length();
    }

    int tellMusicians() {
        List<String> told = new ArrayList<>();
        for (Player p : world.players) {
            told.add((p.chair < 0 ? "." : p.chair) + "$" + p.coins
                    + (p.bid > 0 ? "!" + p.bid : ""));
        }
        line = String.join(" ", told);
        return line.length();
    }

    int character(int index) {
        return isOut(index, 0, line.length() - 1) ? NONE : line.charAt(index);
    }

    int reason(int depth, boolean isDetail) {
        if (isOut(depth, 0, 2)) {
            return BAD;
        }
        return depth >= reasons.size() ? NOTHING : reasons.get(depth)[isDetail ? 1 : 0];
    }

    int account(int what) {
        if (isOut(what, 0, 13)) {
            return BAD;
        }
        switch (what) {
            case 0: return world.chairs.size();
            case 1: return world.players.size();
            case 2: return world.sitting().size();
            case 3: return world.fallen();
            case 4: return world.players.stream().mapToInt(p -> p.coins).sum();
            case 12: return text.length();
            case 13: return past.size();
            default: return world.sums[what - 5];
        }
    }

    double meanFit() {
        return world.sitting().stream()
                .mapToInt(p -> fitOf(world.chairs.get(p.chair), p)).average().orElse(0.0);
    }

    float fallenShare() {
        return world.chairs.isEmpty() ? 0.0f
                : (float) world.fallen() / (float) world.chairs.size();
    }

    int undo() {
        if (past.isEmpty()) {
            return NOTHING;
        }
        world = past.removeLast();
        return past.size();
    }

    int save() {
        saved = world.copy();
        return world.chairs.size();
    }

    int restore() {
        if (saved == null) {
            return NOTHING;
        }
        world = saved.copy();
        past.clear();
        return world.chairs.size();
    }
}
