import java.util.Arrays;

/**
 * Shops on a wall and children who pay in leaves. What is asked in thought is lived on a copy of the
 * garden, so the true one stays as it is. All rooms are made once, by the constructor.
 */
public final class PaidInLeaves {
    public static final int NONE = -1;

    private static final int NOBODY = -1;
    private static final int OTHER = -2;
    private static final int NOTHING = -3;
    private static final int BELOW = -4;
    private static final int BEYOND = -5;
    private static final int WRONG = -6;
    private static final int ROOM = -7;
    /** Where an answer may be NONE, a refusal is answered by 10 less, so that it is not taken for it. */
    private static final int APART = -10;

    private static final int SHELVES = 8;
    private static final int LONGEST_ROW = 160;
    private static final int SORTS = 4;
    private static final int BYTES = 0;
    private static final int SHORTS = 1;
    private static final int INTS = 2;
    private static final int LONGS = 3;
    private static final int FIRST_SORT = 100;

    private static final int KINDS = 7;
    private static final int SHOP = 0;
    private static final int DEAR = 1;
    private static final int SLACK = 2;
    private static final int GREEDY = 3;
    private static final int STAMPED = 4;
    private static final int LAZY = 5;
    private static final int FINE = 6;
    /** The kind above each kind. */
    private static final int[] ABOVE = {NONE, SHOP, SHOP, DEAR, SHOP, SLACK, STAMPED};

    private static final int MOST_SHOPS = 6;
    private static final int MOST_CHILDREN = 6;
    private static final int MOST_A = 9;
    private static final int MOST_PRICE = 999;
    private static final int MOST_QUIET = 999;
    private static final int MOST_ASKED = 9999;
    private static final int MOST_NIMBLE = 99;
    private static final int MOST_LEAVES = 9999;
    private static final int MOST_FEATHERS = 99;
    private static final int MOST_INK = 99;
    private static final int MOST_TREE = 9999;
    private static final int FIRST_INK = 5;
    private static final int FULL_TREE = 999;
    private static final int FEATHER_WORTH = 10;

    private static final int REST = 0;
    private static final int PICK = 1;
    private static final int STAMP = 2;
    private static final int GIVE = 3;
    private static final int FIRST_BUY = 10;
    private static final int LAST_BUY = 15;

    private static final int RULES = 4;
    private static final int GREED = 0;
    private static final int SAVE = 1;
    private static final int STAMPS = 2;
    private static final int SHY = 3;
    private static final int SAVED = 50;
    private static final int SHY_TIMES = 10;

    private static final int LONGEST = 240;
    private static final int INKED_LONGEST = 60;
    private static final int INKED_MOST = 20;
    private static final int MOST_KEPT = 4;
    private static final int KEPT_MINUTES = 30;
    private static final int TOLD_CAKES = 10;

    private static final int MOST_DIGITS = 4;
    private static final int MOST_NUMBER = 9999;

    private static final int MOVES = 3;
    private static final int ASKS = 0;
    private static final int SELLS = 1;
    private static final int SHUTS = 2;
    /** The bodies of asks, sells and shuts, kind by kind; 0 where a kind has none of its own. */
    private static final int[] BODIES = {
        10, 11, 12,
        20, 0, 0,
        0, 30, 0,
        0, 40, 0,
        51, 0, 50,
        0, 0, 60,
        70, 71, 0
    };
    private static final int TRACED = 20;
    /** The longest chain of bodies is that of a FINE shop's shuts: seven. */
    private static final int DEEPEST = 12;

    private final Shelf[] shelves = new Shelf[SHELVES];
    private final int[] refusals = new int[8];
    private final Garden truth = new Garden();
    private final Garden thought = new Garden();
    private final Garden kept = new Garden();
    private final Reader reader = new Reader();
    private final Stage stage = new Stage();
    private boolean hasKept;

    public PaidInLeaves() {
        for (int s = 0; s < SHELVES; s++) {
            shelves[s] = new Shelf();
        }
    }

    // ---- shelves

    public int row(int s, int sort, int n) {
        if (!isShelf(s)) {
            return refuse(NOBODY);
        }
        if (n < 0) {
            return refuse(BELOW);
        }
        if (sort < 0 || sort >= SORTS) {
            return refuse(WRONG);
        }
        if (n > LONGEST_ROW) {
            return refuse(ROOM);
        }
        shelves[s].layRow(sort, n);
        return 1;
    }

    public int set(int s, int i, long v) {
        int trouble = rowTrouble(s);
        if (trouble != 0) {
            return refuse(trouble);
        }
        if (i < 0 || i >= shelves[s].length) {
            return refuse(BEYOND);
        }
        shelves[s].put(i, v);
        return 1;
    }

    public int copy(int p, int q, int i, int j, int n) {
        if (!isShelf(p) || !isShelf(q)) {
            return refuse(NOBODY);
        }
        Shelf from = shelves[p];
        Shelf to = shelves[q];
        if (from.hasShop() || to.hasShop()) {
            return refuse(OTHER);
        }
        if (from.hasRow() && to.hasRow() && from.held != to.held) {
            return refuse(OTHER);
        }
        if (!from.hasRow() || !to.hasRow()) {
            return refuse(NOTHING);
        }
        if (n < 0) {
            return refuse(BELOW);
        }
        if (!from.hasPart(i, n) || !to.hasPart(j, n)) {
            return refuse(BEYOND);
        }
        System.arraycopy(from.elements, i, to.elements, j, n);
        return 1;
    }

    public long element(int s, int i) {
        if (!isShelf(s) || !shelves[s].hasRow() || i < 0 || i >= shelves[s].length) {
            return 0;
        }
        return shelves[s].elements[i];
    }

    public int show(int s, int shop) {
        if (!isShelf(s) || (shop != NONE && !isShop(shop))) {
            return refuse(NOBODY);
        }
        shelves[s].hold(shop);
        return shop == NONE ? 0 : 1;
    }

    public int holds(int s) {
        return isShelf(s) ? shelves[s].held : NONE;
    }

    public int says(int s, int kind) {
        if (!isShelf(s) || !isKind(kind)) {
            return refuse(NOBODY);
        }
        Shelf shelf = shelves[s];
        if (shelf.hasRow()) {
            return refuse(OTHER);
        }
        if (!shelf.hasShop() || !isShop(shelf.held)) {
            return refuse(NOTHING);
        }
        Shop shop = truth.shops[shelf.held];
        if (!shop.isOf(kind)) {
            return refuse(OTHER);
        }
        return shop.saysAs(kind);
    }

    // ---- the garden

    public int shop(int kind, int a, int price) {
        if (!isKind(kind)) {
            return refuse(NOBODY);
        }
        if (a < 0 || a > MOST_A || price < 1 || price > MOST_PRICE) {
            return refuse(WRONG);
        }
        if (truth.shopCount >= MOST_SHOPS) {
            return refuse(ROOM);
        }
        return truth.addShop(kind, a, price);
    }

    public int child(int nimble, int leaves) {
        if (nimble < 1 || nimble > MOST_NIMBLE || leaves < 0 || leaves > MOST_LEAVES) {
            return refuse(WRONG);
        }
        if (truth.childCount >= MOST_CHILDREN) {
            return refuse(ROOM);
        }
        return truth.addChild(nimble, leaves);
    }

    public int shopOf(int shop, int what) {
        if (!isShop(shop)) {
            return refuse(BEYOND);
        }
        Shop told = truth.shops[shop];
        switch (what) {
            case 0: return told.kind;
            case 1: return told.a;
            case 2: return told.price;
            case 3: return told.sold;
            case 4: return told.quiet;
            case 5: return told.asksNow();
            default: return refuse(BEYOND);
        }
    }

    public int childOf(int child, int what) {
        if (!isChild(child)) {
            return refuse(BEYOND);
        }
        Child told = truth.children[child];
        switch (what) {
            case 0: return told.nimble;
            case 1: return told.leaves;
            case 2: return told.stamps;
            case 3: return told.feathers;
            case 4: return told.cakes;
            case 5: return told.shopKept + 1;
            default: return refuse(BEYOND);
        }
    }

    public int tell(int child, int what, int v) {
        if (!isChild(child)) {
            return refuse(NOBODY);
        }
        int most = what == 3 ? MOST_FEATHERS : MOST_LEAVES;
        if (what < 1 || what > 3 || v < 0 || v > most) {
            return refuse(WRONG);
        }
        Child told = truth.children[child];
        int was;
        if (what == 1) {
            was = told.leaves;
            told.leaves = v;
        } else if (what == 2) {
            was = told.stamps;
            told.stamps = v;
        } else {
            was = told.feathers;
            told.feathers = v;
        }
        return was;
    }

    public int keeps(int child, int shop) {
        if (!isChild(child) || (shop != NONE && !isShop(shop))) {
            return refuse(APART + NOBODY);
        }
        int was = truth.children[child].shopKept;
        truth.children[child].shopKept = shop;
        return was;
    }

    public int ask(int what, int v) {
        if (what == 0 && v >= 0 && v <= MOST_INK) {
            int was = truth.ink;
            truth.ink = v;
            return was;
        }
        if (what == 1 && v >= 0 && v <= MOST_TREE) {
            int was = truth.tree;
            truth.tree = v;
            return was;
        }
        return refuse(WRONG);
    }

    public int garden(int s) {
        int trouble = rowTrouble(s);
        if (trouble != 0) {
            return refuse(trouble);
        }
        int items = reader.read(truth, shelves[s]);
        if (reader.faultPlace != NONE) {
            return refuse(WRONG);
        }
        truth.takeAll(reader.draft);
        return items;
    }

    public int fault() {
        return reader.faultPlace;
    }

    public int may(int child) {
        if (!isChild(child)) {
            return refuse(NOBODY);
        }
        int bits = 0;
        for (int deed = REST; deed <= LAST_BUY; deed++) {
            if (truth.can(child, deed)) {
                bits |= 1 << deed;
            }
        }
        return bits;
    }

    // ---- in thought, by rules

    public int behind(int rule, int n, int child, int what) {
        if (!isChild(child)) {
            return refuse(NOBODY);
        }
        if (what != 1 && what != 2 && what != 4) {
            return refuse(BEYOND);
        }
        if (!isRule(rule) || !isTime(n)) {
            return refuse(WRONG);
        }
        foresee(rule, n);
        Child then = thought.children[child];
        if (what == 1) {
            return then.leaves;
        }
        return what == 2 ? then.stamps : then.cakes;
    }

    public int asks(int rule, int n, int shop) {
        if (!isShop(shop)) {
            return refuse(NOBODY);
        }
        if (!isRule(rule) || !isTime(n)) {
            return refuse(WRONG);
        }
        foresee(rule, n);
        return thought.shops[shop].asksNow();
    }

    public int deals(int rule, int n, int what) {
        if (what != 0 && what != 1) {
            return refuse(BEYOND);
        }
        if (!isRule(rule) || !isTime(n)) {
            return refuse(WRONG);
        }
        int made = foresee(rule, n);
        return what == 0 ? made : thought.till;
    }

    public int runs(int rule, int n, int shop) {
        if (!isShop(shop)) {
            return refuse(APART + NOBODY);
        }
        if (!isRule(rule) || !isTime(n)) {
            return refuse(APART + WRONG);
        }
        foresee(rule, n);
        return Integer.compare(thought.shops[shop].asksNow(), truth.shops[shop].asksNow());
    }

    public int settles(int rule, int what) {
        if (what != 0 && what != 1) {
            return refuse(APART + BEYOND);
        }
        if (!isRule(rule)) {
            return refuse(APART + WRONG);
        }
        return what == 0 ? settledBehind(rule) : stoppedFrom(rule);
    }

    public int picked(int child, int shop) {
        if (!isChild(child) || !isShop(shop)) {
            return refuse(NOBODY);
        }
        int nimble = truth.children[child].nimble;
        int asked = truth.shops[shop].asksNow();
        return nimble < 1 ? 0 : (asked + nimble - 1) / nimble;
    }

    public int cheapest() {
        if (truth.shopCount == 0) {
            return refuse(BEYOND);
        }
        int best = 0;
        for (int s = 1; s < truth.shopCount; s++) {
            if (truth.shops[s].asksNow() < truth.shops[best].asksNow()) {
                best = s;
            }
        }
        return best;
    }

    public int money(int n) {
        if (!isTime(n)) {
            return refuse(WRONG);
        }
        int byLeaves = foresee(GREED, n);
        int byStamps = foresee(STAMPS, n);
        int feathers = 0;
        for (int c = 0; c < truth.childCount; c++) {
            feathers += truth.children[c].feathers;
        }
        if (byLeaves >= byStamps && byLeaves >= feathers) {
            return 0;
        }
        return byStamps >= feathers ? 1 : 2;
    }

    public int inked(int n) {
        if (n < 0 || n > INKED_LONGEST) {
            return refuse(WRONG);
        }
        int best = 0;
        int most = NONE;
        for (int ink = 0; ink <= INKED_MOST; ink++) {
            thought.takeAll(truth);
            thought.ink = ink;
            thought.passMinutes(STAMPS, n);
            if (thought.deals - truth.deals > most) {
                most = thought.deals - truth.deals;
                best = ink;
            }
        }
        return best;
    }

    public int keepers(int k, int i) {
        if (k < 1 || k > MOST_KEPT || k > truth.shopCount || k > truth.childCount) {
            return refuse(WRONG);
        }
        if (i < NONE || i >= k) {
            return refuse(BEYOND);
        }
        int way = bestWay(k);
        return i == NONE ? dealsOfWay(way, k) : keeperIn(way, k, i);
    }

    public int bored(int rule, int n) {
        if (truth.childCount == 0) {
            return refuse(BEYOND);
        }
        if (!isRule(rule) || !isTime(n)) {
            return refuse(WRONG);
        }
        foresee(rule, n);
        int best = 0;
        for (int c = 1; c < thought.childCount; c++) {
            if (thought.children[c].cakes < thought.children[best].cakes) {
                best = c;
            }
        }
        return best;
    }

    public int bank(int n) {
        if (!isTime(n)) {
            return refuse(WRONG);
        }
        foresee(GREED, n);
        int most = 0;
        for (int c = 0; c < thought.childCount; c++) {
            most = Math.max(most, thought.children[c].leaves);
        }
        return most;
    }

    public int rot(int rule, int n) {
        if (!isRule(rule) || !isTime(n)) {
            return refuse(WRONG);
        }
        foresee(rule, n);
        return thought.passNight();
    }

    public int trust(int child, int shop) {
        if (!isChild(child) || !isShop(shop)) {
            return refuse(APART + NOBODY);
        }
        thought.takeAll(truth);
        int owed = truth.shops[shop].asksNow();
        for (int t = 0; t <= LONGEST; t++) {
            if (thought.children[child].leaves >= owed) {
                return t;
            }
            thought.perform(child, PICK);
        }
        return NONE;
    }

    public int heap(int rule, int v) {
        if (!isRule(rule) || v < 0) {
            return refuse(APART + WRONG);
        }
        thought.takeAll(truth);
        for (int t = 0; t < LONGEST; t++) {
            if (thought.till >= v) {
                return t;
            }
            thought.passMinutes(rule, 1);
        }
        return thought.till >= v ? LONGEST : NONE;
    }

    // ---- told afternoons

    public int judge(int s, int n) {
        int trouble = toldTrouble(s, n);
        if (trouble != 0) {
            return refuse(APART + trouble);
        }
        return wrongDeed(s, n);
    }

    public int told(int s, int n, int what) {
        int trouble = toldTrouble(s, n);
        if (trouble != 0) {
            return refuse(trouble);
        }
        boolean ofChild = what >= TOLD_CAKES && what - TOLD_CAKES < truth.childCount;
        if (what != 0 && what != 1 && !ofChild) {
            return refuse(BEYOND);
        }
        if (wrongDeed(s, n) != NONE) {
            return refuse(WRONG);
        }
        if (ofChild) {
            return thought.children[what - TOLD_CAKES].cakes;
        }
        return what == 0 ? thought.deals - truth.deals : thought.till;
    }

    public int done(int s, int n) {
        int trouble = toldTrouble(s, n);
        if (trouble != 0) {
            return refuse(trouble);
        }
        if (wrongDeed(s, n) != NONE) {
            return refuse(WRONG);
        }
        truth.takeAll(thought);
        return truth.clock;
    }

    // ---- in truth

    public int does(int child, int deed) {
        if (!isChild(child)) {
            return refuse(NOBODY);
        }
        if (!truth.can(child, deed)) {
            return refuse(WRONG);
        }
        truth.perform(child, deed);
        return 1;
    }

    public int minute(int rule) {
        if (!isRule(rule)) {
            return refuse(WRONG);
        }
        truth.passMinutes(rule, 1);
        return truth.clock;
    }

    public int night() {
        return truth.passNight();
    }

    public int afternoon(int n) {
        if (n < 1 || n > LONGEST) {
            return refuse(WRONG);
        }
        int before = truth.deals;
        truth.passDrawnMinutes(n);
        return truth.deals - before;
    }

    public int seed(int v) {
        int was = truth.seed;
        truth.seed = v;
        return was;
    }

    // ---- moves

    public int act(int shop, int move, int x) {
        stage.ran = 0;
        if (!isShop(shop) || move < 0 || move >= MOVES) {
            return 0;
        }
        stage.kind = truth.shops[shop].kind;
        stage.m = shop;
        stage.k = truth.shops[shop].a;
        return runBody(stage, stage.kind, move, x, 0);
    }

    public int trace(int i) {
        if (i < 0 || i >= TRACED || i >= stage.ran) {
            return NONE;
        }
        return stage.begun[i];
    }

    // ---- the image and the status

    public int image() {
        kept.takeAll(truth);
        hasKept = true;
        return truth.shopCount;
    }

    public int restore() {
        if (!hasKept) {
            return refuse(WRONG);
        }
        truth.takeAll(kept);
        for (int s = 0; s < SHELVES; s++) {
            if (shelves[s].hasShop() && !isShop(shelves[s].held)) {
                shelves[s].hold(NONE);
            }
        }
        return truth.shopCount;
    }

    public int status(int what) {
        switch (what) {
            case 0: return truth.shopCount;
            case 1: return truth.childCount;
            case 2: return truth.clock;
            case 3: return truth.till;
            case 4: return truth.ink;
            case 5: return truth.tree;
            case 6: return truth.deals;
            case 7: return truth.seed;
            case 8: return stage.ran;
            default: return what >= 11 && what <= 17 ? refusals[what - 10] : NONE;
        }
    }

    // ---- what may be, and refusals

    private static boolean isShelf(int s) {
        return s >= 0 && s < SHELVES;
    }

    private static boolean isKind(int kind) {
        return kind >= 0 && kind < KINDS;
    }

    private static boolean isRule(int rule) {
        return rule >= 0 && rule < RULES;
    }

    private static boolean isTime(int n) {
        return n >= 0 && n <= LONGEST;
    }

    private boolean isShop(int shop) {
        return shop >= 0 && shop < truth.shopCount;
    }

    private boolean isChild(int child) {
        return child >= 0 && child < truth.childCount;
    }

    /** Counts a refusal; -11 to -16 count as -1 to -6. */
    private int refuse(int answer) {
        int number = -answer % 10;
        if (number > 0 && number < refusals.length) {
            refusals[number]++;
        }
        return answer;
    }

    /** Why there is no row in shelf s; 0 if there is one. */
    private int rowTrouble(int s) {
        if (!isShelf(s)) {
            return NOBODY;
        }
        if (shelves[s].hasShop()) {
            return OTHER;
        }
        return shelves[s].hasRow() ? 0 : NOTHING;
    }

    /** Why the row in shelf s has no first n elements; 0 if it has them. */
    private int toldTrouble(int s, int n) {
        int trouble = rowTrouble(s);
        if (trouble != 0) {
            return trouble;
        }
        if (n < 0) {
            return BELOW;
        }
        return n > shelves[s].length ? BEYOND : 0;
    }

    // ---- thinking

    /** Lives n minutes by a rule in thought; how many deals there were in them. */
    private int foresee(int rule, int n) {
        thought.takeAll(truth);
        thought.passMinutes(rule, n);
        return thought.deals - truth.deals;
    }

    private int settledBehind(int rule) {
        thought.takeAll(truth);
        thought.noteAsked();
        int settled = 0;
        for (int t = 1; t <= LONGEST; t++) {
            thought.passMinutes(rule, 1);
            if (thought.noteAsked()) {
                settled = t;
            }
        }
        return settled;
    }

    private int stoppedFrom(int rule) {
        thought.takeAll(truth);
        int from = 0;
        for (int t = 0; t < LONGEST; t++) {
            int before = thought.deals;
            thought.passMinutes(rule, 1);
            if (thought.deals != before) {
                from = t + 1;
            }
        }
        return from < LONGEST ? from : NONE;
    }

    /**
     * The best way to give the first k shops. A way is a number with k digits, each a child: written so,
     * the ways stand in the order of their rows.
     */
    private int bestWay(int k) {
        int ways = 1;
        for (int i = 0; i < k; i++) {
            ways *= truth.childCount;
        }
        int best = 0;
        int most = NONE;
        for (int way = 0; way < ways; way++) {
            int made = dealsOfWay(way, k);
            if (made > most) {
                most = made;
                best = way;
            }
        }
        return best;
    }

    /** The deals of a way; NONE if a child would keep two shops in it. */
    private int dealsOfWay(int way, int k) {
        thought.takeAll(truth);
        for (int c = 0; c < thought.childCount; c++) {
            thought.children[c].shopKept = NONE;
        }
        for (int i = 0; i < k; i++) {
            Child keeper = thought.children[keeperIn(way, k, i)];
            if (keeper.shopKept != NONE) {
                return NONE;
            }
            keeper.shopKept = i;
        }
        thought.passMinutes(GREED, KEPT_MINUTES);
        return thought.deals - truth.deals;
    }

    private int keeperIn(int way, int k, int i) {
        int children = truth.childCount;
        if (way < 0 || children < 1) {
            return 0;
        }
        int digits = way;
        for (int j = k - 1; j > i; j--) {
            digits /= children;
        }
        return digits % children;
    }

    /** Lives the afternoon told by shelf s in thought, up to its first deed that may not be; NONE: all may. */
    private int wrongDeed(int s, int n) {
        thought.takeAll(truth);
        int children = thought.childCount;
        if (children < 1) {
            return NONE;
        }
        int place = 0;
        for (int minutes = n / children; minutes > 0; minutes--) {
            thought.beginMinute();
            for (int c = 0; c < children; c++) {
                int deed = shelves[s].asInt(place);
                if (!thought.can(c, deed)) {
                    return place;
                }
                thought.perform(c, deed);
                place++;
            }
            thought.endMinute();
        }
        return NONE;
    }

    /** Runs the body of a kind, or of the next kind above that has one. */
    private static int runBody(Stage on, int fromKind, int move, int x, int depth) {
        if (depth > DEEPEST || move < 0 || move >= MOVES) {
            return 0;
        }
        int one = fromKind;
        for (int i = 0; i < KINDS && isKind(one) && BODIES[one * MOVES + move] == 0; i++) {
            one = ABOVE[one];
        }
        if (!isKind(one)) {
            return 0;
        }
        int body = BODIES[one * MOVES + move];
        on.begin(body);
        int deeper = depth + 1;
        int above = ABOVE[one];
        switch (body) {
            case 10: return x + on.m;
            case 11: return runBody(on, on.kind, ASKS, x, deeper) * 2;
            case 12: return runBody(on, on.kind, SELLS, x, deeper) ^ runBody(on, on.kind, ASKS, x - on.k, deeper);
            case 20: return runBody(on, above, ASKS, x, deeper) + on.k;
            case 30: return runBody(on, above, SELLS, x, deeper) * 3;
            case 40: return runBody(on, above, SELLS, x + 1, deeper);
            case 50: return -runBody(on, above, SHUTS, x, deeper);
            case 51: return runBody(on, above, ASKS, x, deeper) - on.m;
            case 60: return runBody(on, above, SHUTS, x, deeper) ^ 5;
            case 70: return runBody(on, above, ASKS, x, deeper) * 2;
            case 71: return runBody(on, above, SELLS, x - on.k, deeper);
            default: return 0;
        }
    }

    /** A place for nothing, a row or a shop. */
    private static final class Shelf {
        final long[] elements = new long[LONGEST_ROW];
        /** As holds() answers it. */
        int held = NONE;
        int length;

        boolean hasRow() {
            return held >= FIRST_SORT;
        }

        boolean hasShop() {
            return held >= 0 && held < FIRST_SORT;
        }

        void hold(int shop) {
            held = shop;
            length = 0;
        }

        void layRow(int sort, int n) {
            held = FIRST_SORT + sort;
            length = n;
            Arrays.fill(elements, 0L);
        }

        /** Whether n elements from i on are there; as longs, since i and n together may be too much for an int. */
        boolean hasPart(int i, int n) {
            return i >= 0 && (long) i + n <= length;
        }

        void put(int i, long v) {
            if (i < 0 || i >= length) {
                return;
            }
            switch (held - FIRST_SORT) {
                case BYTES: elements[i] = (byte) v; break;
                case SHORTS: elements[i] = (short) v; break;
                case INTS: elements[i] = (int) v; break;
                case LONGS: elements[i] = v; break;
                default: break;
            }
        }

        int asInt(int i) {
            return i >= 0 && i < length ? (int) elements[i] : NONE;
        }
    }

    private static final class Shop {
        int kind;
        int a;
        int price;
        int sold;
        int quiet;
        /** Whether it sold something in this minute. */
        boolean busy;
        /** What it asked when it was noted last. */
        int noted;

        void open(int newKind, int newA, int newPrice) {
            kind = newKind;
            a = newA;
            price = newPrice;
            sold = 0;
            quiet = 0;
        }

        void takeShop(Shop other) {
            kind = other.kind;
            a = other.a;
            price = other.price;
            sold = other.sold;
            quiet = other.quiet;
        }

        boolean isOf(int wanted) {
            int one = kind;
            for (int i = 0; i < KINDS && isKind(one); i++) {
                if (one == wanted) {
                    return true;
                }
                one = ABOVE[one];
            }
            return false;
        }

        boolean takesStampsOnly() {
            return kind == STAMPED || kind == FINE;
        }

        int asksNow() {
            long asked = price;
            switch (kind) {
                case DEAR:
                case FINE:
                    asked += (long) a * sold;
                    break;
                case GREEDY:
                    asked += (long) a * sold * sold;
                    break;
                case SLACK:
                    asked -= (long) a * quiet;
                    break;
                case LAZY:
                    asked -= quiet;
                    break;
                default:
                    break;
            }
            return (int) Math.max(1L, Math.min(MOST_ASKED, asked));
        }

        /** What it says when it is taken for one of a kind that it is of. */
        int saysAs(int wanted) {
            switch (wanted) {
                case SHOP: return price;
                case DEAR:
                case GREEDY: return asksNow() - price;
                case SLACK:
                case LAZY: return quiet;
                default: return asksNow();
            }
        }
    }

    private static final class Child {
        int nimble;
        int leaves;
        int stamps;
        int feathers;
        int cakes;
        int shopKept = NONE;

        void come(int newNimble, int newLeaves) {
            nimble = newNimble;
            leaves = newLeaves;
            stamps = 0;
            feathers = 0;
            cakes = 0;
            shopKept = NONE;
        }

        void takeChild(Child other) {
            nimble = other.nimble;
            leaves = other.leaves;
            stamps = other.stamps;
            feathers = other.feathers;
            cakes = other.cakes;
            shopKept = other.shopKept;
        }

        void gain(int moreLeaves, int moreStamps) {
            leaves = Math.min(MOST_LEAVES, leaves + moreLeaves);
            stamps = Math.min(MOST_LEAVES, stamps + moreStamps);
        }
    }

    /** All that THE IMAGE holds: the true garden, one in thought, one kept, or one that a text drafts. */
    private static final class Garden {
        final Shop[] shops = new Shop[MOST_SHOPS];
        final Child[] children = new Child[MOST_CHILDREN];
        int shopCount;
        int childCount;
        int clock;
        int till;
        int ink = FIRST_INK;
        int tree = FULL_TREE;
        int deals;
        int seed = 1;

        Garden() {
            for (int s = 0; s < MOST_SHOPS; s++) {
                shops[s] = new Shop();
            }
            for (int c = 0; c < MOST_CHILDREN; c++) {
                children[c] = new Child();
            }
        }

        void takeAll(Garden other) {
            shopCount = other.shopCount;
            childCount = other.childCount;
            clock = other.clock;
            till = other.till;
            ink = other.ink;
            tree = other.tree;
            deals = other.deals;
            seed = other.seed;
            for (int s = 0; s < shopCount; s++) {
                shops[s].takeShop(other.shops[s]);
            }
            for (int c = 0; c < childCount; c++) {
                children[c].takeChild(other.children[c]);
            }
        }

        int addShop(int kind, int a, int price) {
            if (shopCount >= MOST_SHOPS) {
                return NONE;
            }
            shops[shopCount].open(kind, a, price);
            return shopCount++;
        }

        int addChild(int nimble, int leaves) {
            if (childCount >= MOST_CHILDREN) {
                return NONE;
            }
            children[childCount].come(nimble, leaves);
            return childCount++;
        }

        boolean can(int c, int deed) {
            if (c < 0 || c >= childCount) {
                return false;
            }
            switch (deed) {
                case REST: return true;
                case PICK: return tree > 0;
                case STAMP: return ink > 0 && children[c].leaves > 0;
                case GIVE: return children[c].feathers > 0;
                default: break;
            }
            if (deed < FIRST_BUY || deed - FIRST_BUY >= shopCount) {
                return false;
            }
            int s = deed - FIRST_BUY;
            return canBuy(children[c], s, shops[s].asksNow());
        }

        boolean canBuy(Child one, int s, int asked) {
            if (one.shopKept == s) {
                return false;
            }
            return asked <= (shops[s].takesStampsOnly() ? one.stamps : one.leaves + one.stamps);
        }

        /** A deed that can be. */
        void perform(int c, int deed) {
            Child one = children[c];
            switch (deed) {
                case REST:
                    break;
                case PICK:
                    int found = Math.min(one.nimble, tree);
                    tree -= found;
                    one.gain(found, 0);
                    break;
                case STAMP:
                    int printed = Math.min(ink, one.leaves);
                    one.leaves -= printed;
                    one.gain(0, printed);
                    break;
                case GIVE:
                    one.feathers--;
                    one.gain(FEATHER_WORTH, 0);
                    break;
                default:
                    buy(one, deed - FIRST_BUY);
                    break;
            }
        }

        void buy(Child one, int s) {
            if (s < 0 || s >= shopCount) {
                return;
            }
            Shop shop = shops[s];
            int asked = shop.asksNow();
            int inLeaves = shop.takesStampsOnly() ? 0 : Math.min(one.leaves, asked);
            int inStamps = asked - inLeaves;
            one.leaves -= inLeaves;
            one.stamps -= inStamps;
            one.cakes++;
            shop.sold++;
            shop.quiet = 0;
            shop.busy = true;
            till += asked;
            deals++;
            for (int c = 0; c < childCount; c++) {
                if (children[c].shopKept == s) {
                    children[c].gain(inLeaves, inStamps);
                    return;
                }
            }
        }

        /** The deed of a child by a rule: always one that can be. */
        int deedBy(int rule, int c) {
            Child one = children[c];
            int pickOrRest = tree > 0 ? PICK : REST;
            if (rule == SAVE && one.leaves < SAVED) {
                return pickOrRest;
            }
            if (rule == STAMPS && one.leaves > one.stamps) {
                return ink > 0 ? STAMP : REST;
            }
            int limit = rule == SHY ? SHY_TIMES * one.nimble : MOST_ASKED;
            int s = cheapestFor(one, limit);
            return s == NONE ? pickOrRest : FIRST_BUY + s;
        }

        int cheapestFor(Child one, int limit) {
            int best = NONE;
            int least = limit + 1;
            for (int s = 0; s < shopCount; s++) {
                int asked = shops[s].asksNow();
                if (asked < least && canBuy(one, s, asked)) {
                    best = s;
                    least = asked;
                }
            }
            return best;
        }

        void passMinutes(int rule, int n) {
            for (int t = 0; t < n; t++) {
                beginMinute();
                for (int c = 0; c < childCount; c++) {
                    perform(c, deedBy(rule, c));
                }
                endMinute();
            }
        }

        void passDrawnMinutes(int n) {
            for (int t = 0; t < n; t++) {
                beginMinute();
                for (int c = 0; c < childCount; c++) {
                    perform(c, drawnDeed(c));
                }
                endMinute();
            }
        }

        int drawnDeed(int c) {
            seed = seed * 1103515245 + 12345;
            switch ((seed >>> 16) % 4) {
                case 0: return deedBy(GREED, c);
                case 1: return can(c, PICK) ? PICK : REST;
                case 2: return can(c, STAMP) ? STAMP : REST;
                default: return deedBy(SHY, c);
            }
        }

        /** A cake that was bought before, without a minute, does not make this minute a busy one. */
        void beginMinute() {
            for (int s = 0; s < shopCount; s++) {
                shops[s].busy = false;
            }
        }

        void endMinute() {
            for (int s = 0; s < shopCount; s++) {
                if (!shops[s].busy) {
                    shops[s].quiet = Math.min(MOST_QUIET, shops[s].quiet + 1);
                }
            }
            clock++;
        }

        /** How many leaves were lost. */
        int passNight() {
            int lost = 0;
            for (int c = 0; c < childCount; c++) {
                int left = children[c].leaves / 2;
                lost += children[c].leaves - left;
                children[c].leaves = left;
            }
            for (int s = 0; s < shopCount; s++) {
                shops[s].sold = 0;
                shops[s].quiet = 0;
            }
            tree = FULL_TREE;
            return lost;
        }

        /** Notes what the shops ask; whether one asks something else than was noted before. */
        boolean noteAsked() {
            boolean other = false;
            for (int s = 0; s < shopCount; s++) {
                int asked = shops[s].asksNow();
                other = other || asked != shops[s].noted;
                shops[s].noted = asked;
            }
            return other;
        }
    }

    /** Reads a garden's text onto a draft, up to its fault. */
    private static final class Reader {
        final Garden draft = new Garden();
        final int[] letters = new int[LONGEST_ROW];
        int length;
        int at;
        int faultPlace = NONE;
        /** Where the latest number began. */
        int numberPlace;

        /** How many items there are; only told if there is no fault. */
        int read(Garden from, Shelf text) {
            draft.takeAll(from);
            length = text.length;
            for (int i = 0; i < length && i < LONGEST_ROW; i++) {
                letters[i] = text.asInt(i);
            }
            at = 0;
            faultPlace = NONE;
            readItem();
            int items = 1;
            while (faultPlace == NONE && at < length && items < LONGEST_ROW) {
                expect(';');
                readItem();
                items++;
            }
            return items;
        }

        /** What stands next; NONE behind the last (an element may be as much: it is no letter either). */
        int next() {
            return at >= 0 && at < length && at < LONGEST_ROW ? letters[at] : NONE;
        }

        void expect(int letter) {
            if (faultPlace != NONE) {
                return;
            }
            if (next() == letter) {
                at++;
            } else {
                blame(at);
            }
        }

        void readItem() {
            switch (next()) {
                case 's': readShop(); break;
                case 'c': readChild(); break;
                case 'f': readFeathers(); break;
                case 'k': readKeeps(); break;
                case 'i': readInk(); break;
                case 't': readTree(); break;
                case 'd': readDeed(); break;
                case 'n': readNight(); break;
                default: blame(at); break;
            }
        }

        /** The first fault is the one. */
        void blame(int place) {
            if (faultPlace == NONE) {
                faultPlace = place;
            }
        }

        void readWord(String word) {
            for (int i = 0; i < word.length(); i++) {
                expect(word.charAt(i));
            }
        }

        /** A blank and a number from least to most; 0 with a fault. */
        int readNumber(int least, int most) {
            expect(' ');
            if (faultPlace != NONE) {
                return 0;
            }
            numberPlace = at;
            int number = 0;
            for (int i = 0; i < MOST_DIGITS && next() >= '0' && next() <= '9'; i++) {
                number = number * 10 + next() - '0';
                at++;
            }
            if (at == numberPlace || number < least || number > most) {
                blame(numberPlace);
                return 0;
            }
            return number;
        }

        /** What there is no room for has its fault at its word, but not before the word stands whole. */
        void wantRoom(boolean room, int wordPlace) {
            if (!room) {
                blame(wordPlace);
            }
        }

        void readShop() {
            int wordPlace = at;
            readWord("shop");
            wantRoom(draft.shopCount < MOST_SHOPS, wordPlace);
            int kind = readNumber(0, KINDS - 1);
            int a = readNumber(0, MOST_A);
            int price = readNumber(1, MOST_PRICE);
            if (faultPlace == NONE) {
                draft.addShop(kind, a, price);
            }
        }

        void readChild() {
            int wordPlace = at;
            readWord("child");
            wantRoom(draft.childCount < MOST_CHILDREN, wordPlace);
            int nimble = readNumber(1, MOST_NIMBLE);
            int leaves = readNumber(0, MOST_LEAVES);
            if (faultPlace == NONE) {
                draft.addChild(nimble, leaves);
            }
        }

        void readFeathers() {
            readWord("feathers");
            int child = readNumber(0, draft.childCount - 1);
            int feathers = readNumber(0, MOST_FEATHERS);
            if (faultPlace == NONE) {
                draft.children[child].feathers = feathers;
            }
        }

        void readKeeps() {
            readWord("keeps");
            int child = readNumber(0, draft.childCount - 1);
            int shop = readNumber(0, draft.shopCount - 1);
            if (faultPlace == NONE) {
                draft.children[child].shopKept = shop;
            }
        }

        void readInk() {
            readWord("ink");
            int ink = readNumber(0, MOST_INK);
            if (faultPlace == NONE) {
                draft.ink = ink;
            }
        }

        void readTree() {
            readWord("tree");
            int tree = readNumber(0, MOST_TREE);
            if (faultPlace == NONE) {
                draft.tree = tree;
            }
        }

        void readDeed() {
            readWord("do");
            int child = readNumber(0, draft.childCount - 1);
            int deed = readNumber(0, MOST_NUMBER);
            if (faultPlace != NONE) {
                return;
            }
            if (draft.can(child, deed)) {
                draft.perform(child, deed);
            } else {
                blame(numberPlace);
            }
        }

        void readNight() {
            readWord("night");
            if (faultPlace == NONE) {
                draft.passNight();
            }
        }
    }

    /** Where a move is acted: whose it is, and which bodies ran. */
    private static final class Stage {
        final int[] begun = new int[TRACED];
        int ran;
        int kind;
        int m;
        int k;

        void begin(int body) {
            if (ran >= 0 && ran < TRACED) {
                begun[ran] = body;
            }
            ran++;
        }
    }
}
