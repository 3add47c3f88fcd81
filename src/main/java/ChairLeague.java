/**
 * A league of chairs that seek musicians. What each call promises stands in ../shared/DOC.md;
 * every call answers with a number or a code, and none throws.
 */
public final class ChairLeague {
    public static final int NONE = -1011;
    public static final int BAD = -1012;
    public static final int FULL = -1013;
    public static final int REFUSED = -1014;
    public static final int NOTHING = -1015;

    private static final int MOST = 10;
    private static final int MOST_SECTION = 3;
    private static final int MOST_LEVEL = 9; // of needs, skills, demands and cushions
    private static final int MOST_STAND = 3;
    private static final int MOST_TIER = 2;
    private static final int MOST_COINS = 99;
    private static final int MOST_WEIGHT = 4;
    private static final int LEAGUE_COINS = 10;
    private static final int MUSICIAN_COINS = 8;
    private static final int STAND_PRICE = 2;
    private static final int MARKS_A_TIER = 20;
    private static final int COMFORT_A_TIER = 3;
    private static final int BEST_FIT = 9;
    private static final int OWN_SECTION_FIT = 4;
    private static final int WANTED_FIT = 6;
    private static final int FIT_A_COIN = 3;
    private static final int LEAST_CODE = 32;
    private static final int MOST_CODE = 126;
    private static final int MOST_TEXT = 60;
    private static final int MOST_LINE = 80; // ten of "0$99!99" and the blanks between them
    private static final int TEXT_FAULT = -2000;

    private static final int NO_ONE = -1;
    private static final int NO_CHAIR = -1;
    private static final int NO_SIGN = -1;

    private static final int ALL_THERE = 1;
    private static final int NOT_SEATED = 2;
    private static final int CHAIR_FELL = 3;
    private static final int CHAIR_TAKEN = 4;
    private static final int SITS_ALREADY = 5;
    private static final int NOT_WANTED = 6;
    private static final int NOT_BORNE = 7;
    private static final int SITS_NOWHERE = 8;
    private static final int TOO_FEW_COINS = 9;
    private static final int NOBODY_BIDS = 10;
    private static final int NOBODY_SITS = 11;
    private static final int STAND_IS_UP = 12;
    private static final int TIER_IS_TOP = 13;
    private static final int TOO_FEW_MARKS = 14;
    private static final int ORDER_FAILED = 15;

    private final State now = new State();
    private final State snapshot = new State();
    private boolean isSaved;
    private final History history = new History();
    private final Asking turns = new Asking();
    private final Asking rounds = new Asking();
    private final Orders orders = new Orders();
    private final Signs line = new Signs(MOST_LINE);
    private final Reasons reasons = new Reasons();

    public ChairLeague() {
    }

    // ---- chairs, musicians

    public int chair(int section, int need) {
        history.mark(now);
        return settled(bringChair(section, need));
    }

    public int musician(int section, int skill, int demand) {
        history.mark(now);
        return settled(bringMusician(section, skill, demand));
    }

    public int chairOf(int chair, int what) {
        Chairs chairs = now.chairs;
        if (!chairs.has(chair)) {
            return NONE;
        }
        switch (what) {
            case 0: return chairs.section.at(chair);
            case 1: return chairs.need.at(chair);
            case 2: return chairs.cushion.at(chair);
            case 3: return chairs.stand.at(chair);
            case 4: return chairs.tier.at(chair);
            case 5: return chairs.comfort(chair);
            case 6: return chairs.marks.at(chair);
            case 7: return orNothing(chairs.sitter.at(chair));
            default: return BAD;
        }
    }

    public int musicianOf(int musician, int what) {
        Musicians musicians = now.musicians;
        if (!musicians.has(musician)) {
            return NONE;
        }
        switch (what) {
            case 0: return musicians.section.at(musician);
            case 1: return musicians.skill.at(musician);
            case 2: return musicians.demand.at(musician);
            case 3: return musicians.coins.at(musician);
            case 4: return musicians.offer.at(musician);
            case 5: return orNothing(musicians.place.at(musician));
            case 6: return musicians.played.at(musician);
            default: return BAD;
        }
    }

    public int fit(int chair, int musician) {
        return areThere(chair, musician) ? now.fitOf(chair, musician) : NONE;
    }

    // ---- seats

    public int seat(int chair, int musician) {
        history.mark(now);
        return settled(seatMusician(chair, musician));
    }

    public int rise(int musician) {
        history.mark(now);
        return settled(letRise(musician));
    }

    public int season() {
        history.mark(now);
        return settled(beginSeason());
    }

    public int would(int chair) {
        if (!now.chairs.has(chair)) {
            return NONE;
        }
        turns.byTurns(now);
        return orNothing(turns.sitterOf(chair));
    }

    public int wouldAgain(int chair) {
        if (!now.chairs.has(chair)) {
            return NONE;
        }
        rounds.byRounds(now);
        return orNothing(rounds.sitterOf(chair));
    }

    public int restless() {
        int pairs = 0;
        for (int chair = 0; chair < now.chairs.count; chair++) {
            for (int musician = 0; musician < now.musicians.count; musician++) {
                if (areRestless(chair, musician)) {
                    pairs++;
                }
            }
        }
        return pairs;
    }

    // ---- cushions, concerts

    public int bid(int musician, int coins) {
        history.mark(now);
        return settled(takeBid(musician, coins));
    }

    public int sell(int cushion) {
        history.mark(now);
        return settled(sellCushion(cushion));
    }

    public int concert(int weight) {
        history.mark(now);
        return settled(giveConcert(weight));
    }

    public int lasts(int weight) {
        if (!isWithin(weight, 1, MOST_WEIGHT)) {
            return BAD;
        }
        int fewest = NOTHING;
        for (int chair = 0; chair < now.chairs.count; chair++) {
            int wear = now.wearOf(chair, weight);
            if (wear > 0) {
                int concerts = (now.chairs.stand.at(chair) - 1) / wear;
                fewest = fewest == NOTHING ? concerts : Math.min(fewest, concerts);
            }
        }
        return fewest;
    }

    // ---- stands, tiers

    public int raise(int chair) {
        history.mark(now);
        return settled(putUp(chair));
    }

    public int promote(int chair) {
        history.mark(now);
        return settled(moveUp(chair));
    }

    public int hall(int tier) {
        if (!isWithin(tier, 0, MOST_TIER)) {
            return BAD;
        }
        int set = 0;
        for (int chair = 0; chair < now.chairs.count; chair++) {
            if (now.chairs.tier.at(chair) == tier) {
                set |= 1 << chair;
            }
        }
        return set;
    }

    // ---- orders

    public int ranked(int place) {
        for (int chair = 0; chair < now.chairs.count; chair++) {
            int ahead = 0;
            for (int other = 0; other < now.chairs.count; other++) {
                if (now.chairs.isAhead(other, chair)) {
                    ahead++;
                }
            }
            if (ahead == place) {
                return chair;
            }
        }
        return NONE;
    }

    public int richest(int place) {
        for (int musician = 0; musician < now.musicians.count; musician++) {
            int ahead = 0;
            for (int other = 0; other < now.musicians.count; other++) {
                if (now.musicians.isAhead(other, musician)) {
                    ahead++;
                }
            }
            if (ahead == place) {
                return musician;
            }
        }
        return NONE;
    }

    // ---- texts, lines

    public int append(int code) {
        if (!isWithin(code, LEAST_CODE, MOST_CODE)) {
            return BAD;
        }
        if (orders.text.length() >= MOST_TEXT) {
            return FULL;
        }
        orders.text.put(code);
        return orders.text.length();
    }

    public int run() {
        int fault = orders.read();
        orders.text.clear();
        if (fault != Orders.NO_FAULT) {
            return TEXT_FAULT - fault;
        }
        history.mark(now);
        for (int order = 0; order < orders.count(); order++) {
            int answer = carryOut(order);
            if (answer < 0) {
                history.bringBack(now);
                return refusedOrder(order, answer);
            }
        }
        return settled(orders.count());
    }

    public int tell(int chair) {
        Chairs chairs = now.chairs;
        if (!chairs.has(chair)) {
            return NONE;
        }
        line.clear();
        line.putNumber(chair);
        line.put('s');
        line.putNumber(chairs.section.at(chair));
        line.put('n');
        line.putNumber(chairs.need.at(chair));
        line.put('c');
        line.putNumber(chairs.cushion.at(chair));
        for (int tier = 0; tier < chairs.tier.at(chair); tier++) {
            line.put('^');
        }
        if (chairs.isFallen(chair)) {
            line.put('x');
        }
        if (chairs.isTaken(chair)) {
            line.put(':');
            line.putNumber(chairs.sitter.at(chair));
        }
        return line.length();
    }

    public int tellMusicians() {
        line.clear();
        for (int musician = 0; musician < now.musicians.count; musician++) {
            if (musician > 0) {
                line.put(' ');
            }
            writeMusician(musician);
        }
        return line.length();
    }

    public int character(int index) {
        int code = line.at(index);
        return code == NO_SIGN ? NONE : code;
    }

    // ---- reasons, accounts, undo and the snapshot

    public int reason(int depth, boolean isDetail) {
        if (!isWithin(depth, 0, Reasons.MOST_DEPTH)) {
            return BAD;
        }
        if (!reasons.stands(depth)) {
            return NOTHING;
        }
        return isDetail ? reasons.detail.at(depth) : reasons.number.at(depth);
    }

    public int account(int what) {
        Books books = now.books;
        switch (what) {
            case 0: return now.chairs.count;
            case 1: return now.musicians.count;
            case 2: return now.musicians.sitting();
            case 3: return now.chairs.fallen();
            case 4: return now.musicians.allCoins();
            case 5: return books.league;
            case 6: return books.halls;
            case 7: return books.spent;
            case 8: return books.lost;
            case 9: return books.concerts;
            case 10: return books.seasons;
            case 11: return books.sold;
            case 12: return orders.text.length();
            case 13: return history.count();
            default: return BAD;
        }
    }

    public int isBalanced() {
        return areCoinsThere() && areSeatsPaired() && areWaysAlike() ? 1 : 0;
    }

    public double meanFit() {
        int fits = 0;
        int sitting = 0;
        for (int chair = 0; chair < now.chairs.count; chair++) {
            if (now.chairs.isTaken(chair)) {
                fits += now.fitOf(chair, now.chairs.sitter.at(chair));
                sitting++;
            }
        }
        return sitting == 0 ? 0.0 : (double) fits / (double) sitting;
    }

    public float fallenShare() {
        int chairs = now.chairs.count;
        return chairs == 0 ? 0.0f : (float) now.chairs.fallen() / (float) chairs;
    }

    public int undo() {
        if (history.count() == 0) {
            return NOTHING;
        }
        history.stepBack();
        history.bringBack(now);
        return history.count();
    }

    public int save() {
        snapshot.copy(now);
        isSaved = true;
        return now.chairs.count;
    }

    public int restore() {
        if (!isSaved) {
            return NOTHING;
        }
        now.copy(snapshot);
        history.forget();
        return now.chairs.count;
    }

    // ---- the changes, for the face and for orders: each is made whole, or leaves all as it was

    private int bringChair(int section, int need) {
        if (!isWithin(section, 0, MOST_SECTION) || !isWithin(need, 1, MOST_LEVEL)) {
            return BAD;
        }
        if (now.chairs.count >= MOST) {
            return refused(ALL_THERE, now.chairs.count);
        }
        return now.chairs.bring(section, need);
    }

    private int bringMusician(int section, int skill, int demand) {
        if (!isWithin(section, 0, MOST_SECTION) || !isWithin(skill, 1, MOST_LEVEL)
                || !isWithin(demand, 0, MOST_LEVEL)) {
            return BAD;
        }
        if (now.musicians.count >= MOST) {
            return refused(ALL_THERE, now.musicians.count);
        }
        return now.musicians.bring(section, skill, demand);
    }

    private int seatMusician(int chair, int musician) {
        if (!areThere(chair, musician)) {
            return NONE;
        }
        Chairs chairs = now.chairs;
        if (chairs.isFallen(chair)) {
            return refusedSeat(musician, CHAIR_FELL, chairs.fallen());
        }
        if (chairs.isTaken(chair)) {
            return refusedSeat(musician, CHAIR_TAKEN, chairs.sitter.at(chair));
        }
        if (now.musicians.sits(musician)) {
            return refusedSeat(musician, SITS_ALREADY, now.musicians.place.at(musician));
        }
        if (!now.wants(chair, musician)) {
            return refusedSeat(musician, NOT_WANTED, now.fitOf(chair, musician));
        }
        if (!now.bears(musician, chair)) {
            return refusedSeat(musician, NOT_BORNE, chairs.comfort(chair));
        }
        now.sit(chair, musician);
        return now.musicians.sitting();
    }

    private int letRise(int musician) {
        if (!now.musicians.has(musician)) {
            return NONE;
        }
        if (!now.musicians.sits(musician)) {
            return refused(SITS_NOWHERE, now.musicians.sitting());
        }
        int left = now.musicians.place.at(musician);
        now.leave(musician);
        return left;
    }

    private int beginSeason() {
        for (int musician = 0; musician < now.musicians.count; musician++) {
            now.leave(musician);
        }
        turns.byTurns(now);
        for (int chair = 0; chair < now.chairs.count; chair++) {
            int musician = turns.sitterOf(chair);
            if (musician != NO_ONE) {
                now.sit(chair, musician);
            }
        }
        now.books.seasons++;
        return now.musicians.sitting();
    }

    private int takeBid(int musician, int coins) {
        if (!now.musicians.has(musician)) {
            return NONE;
        }
        if (!isWithin(coins, 0, MOST_COINS)) {
            return BAD;
        }
        if (!now.musicians.sits(musician)) {
            return refused(SITS_NOWHERE, now.musicians.sitting());
        }
        if (coins > now.musicians.coins.at(musician)) {
            return refused(TOO_FEW_COINS, now.musicians.coins.at(musician));
        }
        int before = now.musicians.offer.at(musician);
        now.musicians.offer.put(musician, coins);
        return before;
    }

    private int sellCushion(int cushion) {
        if (!isWithin(cushion, 1, MOST_LEVEL)) {
            return BAD;
        }
        Musicians musicians = now.musicians;
        int buyer = musicians.highestBidder(NO_ONE);
        if (buyer == NO_ONE) {
            return refused(NOBODY_BIDS, musicians.sitting());
        }
        int next = musicians.highestBidder(buyer);
        int price = next == NO_ONE ? 0 : musicians.offer.at(next);
        musicians.coins.more(buyer, -price);
        now.books.league += price;
        now.chairs.cushion.put(musicians.place.at(buyer), cushion);
        musicians.forgetBids();
        now.books.sold++;
        return price;
    }

    private int giveConcert(int weight) {
        if (!isWithin(weight, 1, MOST_WEIGHT)) {
            return BAD;
        }
        if (now.musicians.sitting() == 0) {
            return refused(NOBODY_SITS, now.musicians.count);
        }
        int fits = 0;
        for (int chair = 0; chair < now.chairs.count; chair++) {
            if (now.chairs.isTaken(chair)) {
                fits += now.play(chair);
                now.wear(chair, weight);
            }
        }
        now.books.concerts++;
        return fits;
    }

    private int putUp(int chair) {
        if (!now.chairs.has(chair)) {
            return NONE;
        }
        if (now.chairs.stand.at(chair) >= MOST_STAND) {
            return refused(STAND_IS_UP, now.chairs.stand.at(chair));
        }
        if (now.books.league < STAND_PRICE) {
            return refused(TOO_FEW_COINS, now.books.league);
        }
        now.chairs.stand.put(chair, MOST_STAND);
        now.books.league -= STAND_PRICE;
        now.books.spent += STAND_PRICE;
        return now.books.league;
    }

    private int moveUp(int chair) {
        if (!now.chairs.has(chair)) {
            return NONE;
        }
        int tier = now.chairs.tier.at(chair);
        int marks = now.chairs.marks.at(chair);
        if (tier >= MOST_TIER) {
            return refused(TIER_IS_TOP, marks);
        }
        int due = MARKS_A_TIER * (tier + 1);
        if (marks < due) {
            return refused(TOO_FEW_MARKS, due - marks);
        }
        now.chairs.tier.put(chair, tier + 1);
        return tier + 1;
    }

    private int carryOut(int order) {
        int first = orders.first.at(order);
        int second = orders.second.at(order);
        switch (orders.kind.at(order)) {
            case 'h': return bringChair(first, second);
            case 'm': return bringMusician(first, second, orders.third.at(order));
            case 's': return seatMusician(first, second);
            case 'r': return letRise(first);
            case 'a': return beginSeason();
            case 'b': return takeBid(first, second);
            case 'c': return sellCushion(first);
            case 'p': return giveConcert(first);
            case 'u': return putUp(first);
            case 't': return moveUp(first);
            default: return BAD;
        }
    }

    // ---- answers

    // A change that succeeds never answers below 0, and every code is below 0.
    private int settled(int answer) {
        if (answer >= 0) {
            history.keep();
        }
        return answer;
    }

    private int refused(int reason, int detail) {
        reasons.begin(reason, detail);
        return REFUSED;
    }

    private int refusedSeat(int musician, int behind, int detail) {
        reasons.begin(behind, detail);
        reasons.putAhead(NOT_SEATED, musician);
        return REFUSED;
    }

    private int refusedOrder(int order, int answer) {
        if (answer != REFUSED) {
            return refused(ORDER_FAILED, order);
        }
        reasons.putAhead(ORDER_FAILED, order);
        return REFUSED;
    }

    private static int orNothing(int number) {
        return number < 0 ? NOTHING : number;
    }

    private static boolean isWithin(int number, int least, int most) {
        return number >= least && number <= most;
    }

    private boolean areThere(int chair, int musician) {
        return now.chairs.has(chair) && now.musicians.has(musician);
    }

    private boolean areRestless(int chair, int musician) {
        if (!now.wants(chair, musician) || !now.bears(musician, chair)) {
            return false;
        }
        int sitter = now.chairs.sitter.at(chair);
        int place = now.musicians.place.at(musician);
        return (sitter == NO_ONE || now.isRatherHad(chair, musician, sitter))
                && (place == NO_CHAIR || now.chairs.isRather(chair, place));
    }

    private void writeMusician(int musician) {
        Musicians musicians = now.musicians;
        if (musicians.sits(musician)) {
            line.putNumber(musicians.place.at(musician));
        } else {
            line.put('.');
        }
        line.put('$');
        line.putNumber(musicians.coins.at(musician));
        if (musicians.offer.at(musician) > 0) {
            line.put('!');
            line.putNumber(musicians.offer.at(musician));
        }
    }

    private boolean areCoinsThere() {
        Books books = now.books;
        int come = LEAGUE_COINS + MUSICIAN_COINS * now.musicians.count + books.halls;
        return come == books.league + now.musicians.allCoins() + books.spent + books.lost;
    }

    private boolean areSeatsPaired() {
        for (int musician = 0; musician < now.musicians.count; musician++) {
            int place = now.musicians.place.at(musician);
            if (place != NO_CHAIR && now.chairs.sitter.at(place) != musician) {
                return false;
            }
        }
        return true;
    }

    private boolean areWaysAlike() {
        turns.byTurns(now);
        rounds.byRounds(now);
        for (int chair = 0; chair < now.chairs.count; chair++) {
            if (turns.sitterOf(chair) != rounds.sitterOf(chair)) {
                return false;
            }
        }
        return true;
    }

    /** Numbers in a row; beyond its ends 0 is read, and nothing is written. */
    private static final class Row {
        private final int[] numbers;

        Row(int length) {
            numbers = new int[Math.max(length, 0)];
        }

        int at(int index) {
            return index >= 0 && index < numbers.length ? numbers[index] : 0;
        }

        void put(int index, int number) {
            if (index >= 0 && index < numbers.length) {
                numbers[index] = number;
            }
        }

        void more(int index, int number) {
            if (index >= 0 && index < numbers.length) {
                numbers[index] += number;
            }
        }

        void copy(Row other) {
            int length = Math.min(numbers.length, other.numbers.length);
            System.arraycopy(other.numbers, 0, numbers, 0, length);
        }
    }

    private static final class Chairs {
        int count;
        final Row section = new Row(MOST);
        final Row need = new Row(MOST);
        final Row cushion = new Row(MOST);
        final Row stand = new Row(MOST);
        final Row tier = new Row(MOST);
        final Row marks = new Row(MOST);
        final Row sitter = new Row(MOST);

        /** Returns the number of the chair that is brought. */
        int bring(int itsSection, int itsNeed) {
            int chair = count;
            section.put(chair, itsSection);
            need.put(chair, itsNeed);
            cushion.put(chair, 0);
            stand.put(chair, MOST_STAND);
            tier.put(chair, 0);
            marks.put(chair, 0);
            sitter.put(chair, NO_ONE);
            count++;
            return chair;
        }

        boolean has(int chair) {
            return chair >= 0 && chair < count;
        }

        boolean isFallen(int chair) {
            return stand.at(chair) == 0;
        }

        boolean isTaken(int chair) {
            return sitter.at(chair) != NO_ONE;
        }

        int comfort(int chair) {
            return cushion.at(chair) + COMFORT_A_TIER * tier.at(chair);
        }

        int fallen() {
            int fallen = 0;
            for (int chair = 0; chair < count; chair++) {
                if (isFallen(chair)) {
                    fallen++;
                }
            }
            return fallen;
        }

        /** Whether a musician would rather have the one chair than the other. */
        boolean isRather(int chair, int other) {
            int more = comfort(chair) - comfort(other);
            return more > 0 || more == 0 && chair < other;
        }

        boolean isAhead(int chair, int other) {
            int more = marks.at(chair) - marks.at(other);
            return more > 0 || more == 0 && isRather(chair, other);
        }

        void copy(Chairs other) {
            count = other.count;
            section.copy(other.section);
            need.copy(other.need);
            cushion.copy(other.cushion);
            stand.copy(other.stand);
            tier.copy(other.tier);
            marks.copy(other.marks);
            sitter.copy(other.sitter);
        }
    }

    private static final class Musicians {
        int count;
        final Row section = new Row(MOST);
        final Row skill = new Row(MOST);
        final Row demand = new Row(MOST);
        final Row coins = new Row(MOST);
        final Row offer = new Row(MOST);
        final Row place = new Row(MOST);
        final Row played = new Row(MOST);

        /** Returns the number of the musician who comes. */
        int bring(int theSection, int theSkill, int theDemand) {
            int musician = count;
            section.put(musician, theSection);
            skill.put(musician, theSkill);
            demand.put(musician, theDemand);
            coins.put(musician, MUSICIAN_COINS);
            offer.put(musician, 0);
            place.put(musician, NO_CHAIR);
            played.put(musician, 0);
            count++;
            return musician;
        }

        boolean has(int musician) {
            return musician >= 0 && musician < count;
        }

        boolean sits(int musician) {
            return place.at(musician) != NO_CHAIR;
        }

        int sitting() {
            int sitting = 0;
            for (int musician = 0; musician < count; musician++) {
                if (sits(musician)) {
                    sitting++;
                }
            }
            return sitting;
        }

        int allCoins() {
            int all = 0;
            for (int musician = 0; musician < count; musician++) {
                all += coins.at(musician);
            }
            return all;
        }

        /** Returns who bids the most of all but one, NO_ONE if nobody bids more than 0. */
        int highestBidder(int butOne) {
            int highest = NO_ONE;
            int most = 0;
            for (int musician = 0; musician < count; musician++) {
                if (musician != butOne && offer.at(musician) > most) {
                    highest = musician;
                    most = offer.at(musician);
                }
            }
            return highest;
        }

        void forgetBids() {
            for (int musician = 0; musician < count; musician++) {
                offer.put(musician, 0);
            }
        }

        boolean isAhead(int musician, int other) {
            int more = coins.at(musician) - coins.at(other);
            if (more != 0) {
                return more > 0;
            }
            if (sits(musician) != sits(other)) {
                return sits(musician);
            }
            return musician < other;
        }

        void copy(Musicians other) {
            count = other.count;
            section.copy(other.section);
            skill.copy(other.skill);
            demand.copy(other.demand);
            coins.copy(other.coins);
            offer.copy(other.offer);
            place.copy(other.place);
            played.copy(other.played);
        }
    }

    private static final class Books {
        int league = LEAGUE_COINS;
        int halls;
        int spent;
        int lost;
        int concerts;
        int seasons;
        int sold;

        void copy(Books other) {
            league = other.league;
            halls = other.halls;
            spent = other.spent;
            lost = other.lost;
            concerts = other.concerts;
            seasons = other.seasons;
            sold = other.sold;
        }
    }

    /** All that changes can change, and nothing else. */
    private static final class State {
        final Chairs chairs = new Chairs();
        final Musicians musicians = new Musicians();
        final Books books = new Books();

        int fitOf(int chair, int musician) {
            int apart = Math.abs(chairs.need.at(chair) - musicians.skill.at(musician));
            boolean isOwn = chairs.section.at(chair) == musicians.section.at(musician);
            return BEST_FIT - apart + (isOwn ? OWN_SECTION_FIT : 0);
        }

        boolean wants(int chair, int musician) {
            return fitOf(chair, musician) >= WANTED_FIT;
        }

        boolean bears(int musician, int chair) {
            return !chairs.isFallen(chair)
                    && chairs.comfort(chair) >= musicians.demand.at(musician);
        }

        /** Whether a chair would rather have the one musician than the other. */
        boolean isRatherHad(int chair, int musician, int other) {
            int more = fitOf(chair, musician) - fitOf(chair, other);
            return more > 0 || more == 0 && musician < other;
        }

        void sit(int chair, int musician) {
            chairs.sitter.put(chair, musician);
            musicians.place.put(musician, chair);
        }

        void leave(int musician) {
            chairs.sitter.put(musicians.place.at(musician), NO_ONE);
            musicians.place.put(musician, NO_CHAIR);
            musicians.offer.put(musician, 0);
        }

        /** Pays and marks for the fit on a chair with a musician; returns the fit. */
        int play(int chair) {
            int musician = chairs.sitter.at(chair);
            int fit = fitOf(chair, musician);
            int pay = fit / FIT_A_COIN;
            int kept = Math.min(pay, MOST_COINS - musicians.coins.at(musician));
            musicians.coins.more(musician, kept);
            musicians.played.more(musician, 1);
            books.halls += pay;
            books.lost += pay - kept;
            chairs.marks.more(chair, fit);
            return fit;
        }

        /** What a concert takes from the stand of a chair, 0 if nobody sits there. */
        int wearOf(int chair, int weight) {
            if (!chairs.isTaken(chair)) {
                return 0;
            }
            if (musicians.skill.at(chairs.sitter.at(chair)) < chairs.need.at(chair)) {
                return weight;
            }
            return weight == MOST_WEIGHT ? 1 : 0;
        }

        void wear(int chair, int weight) {
            int stand = chairs.stand.at(chair) - wearOf(chair, weight);
            chairs.stand.put(chair, Math.max(stand, 0));
            if (chairs.isFallen(chair)) {
                leave(chairs.sitter.at(chair));
            }
        }

        void copy(State other) {
            chairs.copy(other.chairs);
            musicians.copy(other.musicians);
            books.copy(other.books);
        }
    }

    /** The asking and choosing of a season, worked out without moving anyone. */
    private static final class Asking {
        // A chair asks each musician once at most: no more turns or rounds than pairs are needed.
        private static final int MOST_ASKED = MOST * MOST;

        // By chair: left is the set of those whom it wants and has not asked, bit k for musician k.
        private final Row left = new Row(MOST);
        private final Row asked = new Row(MOST);
        private final Row sitter = new Row(MOST);
        private final Row place = new Row(MOST); // by musician

        int sitterOf(int chair) {
            return sitter.at(chair);
        }

        void byTurns(State state) {
            begin(state);
            for (int turn = 0; turn < MOST_ASKED; turn++) {
                int chair = lowestThatCanAsk(state);
                if (chair == NO_CHAIR) {
                    return;
                }
                int musician = askNext(state, chair);
                int old = place.at(musician);
                if (state.bears(musician, chair)
                        && (old == NO_CHAIR || state.chairs.isRather(chair, old))) {
                    move(musician, chair);
                }
            }
        }

        void byRounds(State state) {
            begin(state);
            for (int round = 0; round < MOST_ASKED; round++) {
                if (!askAtOnce(state)) {
                    return;
                }
                for (int musician = 0; musician < state.musicians.count; musician++) {
                    int best = bestOfAsking(state, musician);
                    if (best != place.at(musician)) {
                        move(musician, best);
                    }
                }
            }
        }

        private void begin(State state) {
            for (int chair = 0; chair < state.chairs.count; chair++) {
                int set = 0;
                for (int musician = 0; musician < state.musicians.count; musician++) {
                    if (state.fitOf(chair, musician) >= WANTED_FIT) {
                        set |= 1 << musician;
                    }
                }
                left.put(chair, state.chairs.isFallen(chair) ? 0 : set);
                sitter.put(chair, NO_ONE);
            }
            for (int musician = 0; musician < state.musicians.count; musician++) {
                place.put(musician, NO_CHAIR);
            }
        }

        private boolean canAsk(int chair) {
            return sitter.at(chair) == NO_ONE && left.at(chair) != 0;
        }

        private int lowestThatCanAsk(State state) {
            for (int chair = 0; chair < state.chairs.count; chair++) {
                if (canAsk(chair)) {
                    return chair;
                }
            }
            return NO_CHAIR;
        }

        /** Returns whom the chair asks, whom it never asks again. */
        private int askNext(State state, int chair) {
            int best = NO_ONE;
            int bestFit = 0;
            for (int musician = 0; musician < state.musicians.count; musician++) {
                boolean isLeft = (left.at(chair) >> musician & 1) == 1;
                if (isLeft && state.fitOf(chair, musician) > bestFit) {
                    best = musician;
                    bestFit = state.fitOf(chair, musician);
                }
            }
            left.put(chair, left.at(chair) & ~(1 << best));
            return best;
        }

        private boolean askAtOnce(State state) {
            boolean isAnyAsking = false;
            for (int chair = 0; chair < state.chairs.count; chair++) {
                boolean isAsking = canAsk(chair);
                asked.put(chair, isAsking ? askNext(state, chair) : NO_ONE);
                isAnyAsking = isAnyAsking || isAsking;
            }
            return isAnyAsking;
        }

        /** Returns the chair that the musician chooses of those that ask and the one held. */
        private int bestOfAsking(State state, int musician) {
            int best = place.at(musician);
            for (int chair = 0; chair < state.chairs.count; chair++) {
                if (asked.at(chair) == musician && state.bears(musician, chair)
                        && (best == NO_CHAIR || state.chairs.isRather(chair, best))) {
                    best = chair;
                }
            }
            return best;
        }

        private void move(int musician, int chair) {
            sitter.put(place.at(musician), NO_ONE);
            sitter.put(chair, musician);
            place.put(musician, chair);
        }
    }

    /** The states ahead of the latest changes, in a ring with one place more for the next one. */
    private static final class History {
        private static final int MOST_CHANGES = 8;
        private static final int PLACES = MOST_CHANGES + 1;

        private final State[] states = new State[PLACES];
        private int next;
        private int count;

        History() {
            for (int place = 0; place < states.length; place++) {
                states[place] = new State();
            }
        }

        int count() {
            return count;
        }

        /** Notes the state ahead of what may become a change. */
        void mark(State now) {
            State marked = marked();
            if (marked != null) {
                marked.copy(now);
            }
        }

        void keep() {
            next = (next + 1) % PLACES;
            count = Math.min(count + 1, MOST_CHANGES);
        }

        void stepBack() {
            next = (next + MOST_CHANGES) % PLACES;
            count = Math.max(count - 1, 0);
        }

        void bringBack(State now) {
            State marked = marked();
            if (marked != null) {
                now.copy(marked);
            }
        }

        void forget() {
            count = 0;
        }

        private State marked() {
            return next >= 0 && next < states.length ? states[next] : null;
        }
    }

    /** Characters, as many as there is room for. */
    private static final class Signs {
        private final int most;
        private final Row codes;
        private int length;

        Signs(int most) {
            this.most = most;
            codes = new Row(most);
        }

        int length() {
            return length;
        }

        int at(int index) {
            return index >= 0 && index < length ? codes.at(index) : NO_SIGN;
        }

        void clear() {
            length = 0;
        }

        void put(int code) {
            if (length < most) {
                codes.put(length, code);
                length++;
            }
        }

        /** Takes numbers from 0 to 99: no line has others. */
        void putNumber(int number) {
            if (number > 9) {
                put('0' + number / 10);
            }
            put('0' + number % 10);
        }
    }

    /** The text, and the orders that were read from it. */
    private static final class Orders {
        static final int NO_FAULT = -1;
        // The shortest order and the ";" behind it take two characters.
        private static final int MOST_ORDERS = MOST_TEXT / 2;

        final Signs text = new Signs(MOST_TEXT);
        final Row kind = new Row(MOST_ORDERS);
        final Row first = new Row(MOST_ORDERS);
        final Row second = new Row(MOST_ORDERS);
        final Row third = new Row(MOST_ORDERS);
        private int count;
        private int place;

        int count() {
            return count;
        }

        /** Returns the fault position, or NO_FAULT. */
        int read() {
            place = 0;
            count = 0;
            for (int order = 0; order < MOST_ORDERS; order++) {
                if (!readOrder(text.at(place))) {
                    return place;
                }
                count++;
                if (place == text.length()) {
                    return NO_FAULT;
                }
                if (!readSign(';')) {
                    return place;
                }
            }
            return place;
        }

        private boolean readOrder(int letter) {
            kind.put(count, letter);
            switch (letter) {
                case 'a':
                    return readSign(letter);
                case 'h':
                    return readSign(letter) && readDigit(first) && readDigit(second);
                case 'm':
                    return readSign(letter) && readDigit(first) && readDigit(second)
                            && readDigit(third);
                case 's':
                    return readSign(letter) && readDigit(first) && readSign(':')
                            && readDigit(second);
                case 'b':
                    return readSign(letter) && readDigit(first) && readSign('=') && readCoins();
                case 'r':
                case 'c':
                case 'p':
                case 'u':
                case 't':
                    return readSign(letter) && readDigit(first);
                default:
                    return false;
            }
        }

        private boolean readSign(int sign) {
            if (text.at(place) != sign) {
                return false;
            }
            place++;
            return true;
        }

        private boolean readDigit(Row into) {
            if (!isDigit(text.at(place))) {
                return false;
            }
            into.put(count, text.at(place) - '0');
            place++;
            return true;
        }

        private boolean readCoins() {
            if (!readDigit(second)) {
                return false;
            }
            if (isDigit(text.at(place))) {
                second.put(count, 10 * second.at(count) + text.at(place) - '0');
                place++;
            }
            return true;
        }

        private static boolean isDigit(int code) {
            return code >= '0' && code <= '9';
        }
    }

    /** The latest reason and what stands behind it. */
    private static final class Reasons {
        static final int MOST_DEPTH = 2;

        final Row number = new Row(MOST_DEPTH + 1);
        final Row detail = new Row(MOST_DEPTH + 1);
        private int count;

        boolean stands(int depth) {
            return depth >= 0 && depth < count;
        }

        void begin(int reason, int itsDetail) {
            number.put(0, reason);
            detail.put(0, itsDetail);
            count = 1;
        }

        void putAhead(int reason, int itsDetail) {
            for (int depth = MOST_DEPTH; depth > 0; depth--) {
                number.put(depth, number.at(depth - 1));
                detail.put(depth, detail.at(depth - 1));
            }
            number.put(0, reason);
            detail.put(0, itsDetail);
            count = Math.min(count + 1, MOST_DEPTH + 1);
        }
    }
}
