import java.util.function.Supplier;
import java.util.function.ToIntFunction;

/**
 * Every refusal of every promise, and the order in which they fit: the call answers its number, that number
 * is counted once, and all else is as in a twin that was not asked. Where a call has several faults, those
 * that come later in the order must not show.
 */
public final class RefusalsTest {
    private static final int MIN = Integer.MIN_VALUE;
    private static final int MAX = Integer.MAX_VALUE;
    /** What no number of a call may be. */
    private static final int[] FAR = {MIN, -1000, MAX};

    private static final int BYTES_ROW = 0;
    private static final int INTS_ROW = 1;
    private static final int STAMPED_SHOP = 2;
    private static final int NOTHING = 3;
    private static final int WRONG_DEEDS = 4;
    private static final int FAULTY_TEXT = 5;
    private static final int DEAR_SHOP = 6;
    private static final int EMPTY_ROW = 7;

    public static void main(String[] args) {
        rowRefuses();
        setRefuses();
        copyRefuses();
        showRefuses();
        saysRefuses();
        shopAndChildRefuse();
        ofRefuse();
        tellKeepsAskRefuse();
        gardenRefuses();
        mayRefuses();
        behindRefuses();
        asksDealsRefuse();
        runsSettlesRefuse();
        pickedTrustRefuse();
        lonelyRefuse();
        moneyInkedBankRotRefuse();
        keepersRefuse();
        boredRefuses();
        judgeToldDoneRefuse();
        heapDoesRefuse();
        minuteAfternoonRefuse();
        restoreRefuses();
        answersThatAreNoRefusals();
        Due.end();
    }

    /** Three shops, three children, shelves of all sorts, an image, a fault, a trace, an afternoon behind them. */
    private static PaidInLeaves scene() {
        PaidInLeaves x = new PaidInLeaves();
        x.shop(1, 2, 9);
        x.shop(4, 0, 6);
        x.child(7, 30);
        x.image();
        x.shop(5, 0, 40);
        x.child(3, 80);
        x.child(9, 5);
        x.tell(1, 2, 20);
        x.tell(2, 3, 4);
        x.keeps(2, 0);
        x.ask(0, 6);
        Due.lay(x, BYTES_ROW, 1, 10, 0, 1, 2, 0);
        x.row(INTS_ROW, 2, 3);
        x.set(INTS_ROW, 2, -77);
        x.show(STAMPED_SHOP, 1);
        Due.lay(x, WRONG_DEEDS, 0, 9, 0);
        Due.lay(x, FAULTY_TEXT, "inK 5");
        x.garden(FAULTY_TEXT);
        x.show(DEAR_SHOP, 0);
        x.row(EMPTY_ROW, 3, 0);
        x.seed(-5);
        x.afternoon(8);
        x.does(1, 11);
        x.act(0, 1, 4);
        return x;
    }

    private static PaidInLeaves full() {
        PaidInLeaves x = new PaidInLeaves();
        for (int i = 0; i < 6; i++) {
            x.shop(i, i, 10 + i);
            x.child(1 + i, 10 * i);
        }
        return x;
    }

    /** All that can be seen from the outside without a refusal. */
    private static long[] picture(PaidInLeaves x) {
        long[] all = new long[160];
        int n = 0;
        for (int what = 0; what < 18; what++) {
            all[n++] = x.status(what);
        }
        for (int s = 0; s < x.status(0); s++) {
            for (int what = 0; what < 5; what++) {
                all[n++] = x.shopOf(s, what);
            }
        }
        for (int c = 0; c < x.status(1); c++) {
            for (int what = 0; what < 6; what++) {
                all[n++] = x.childOf(c, what);
            }
        }
        for (int s = 0; s < 8; s++) {
            all[n++] = x.holds(s);
            for (int i = 0; i < 6; i++) {
                all[n++] = x.element(s, i);
            }
        }
        for (int i = 0; i < 4; i++) {
            all[n++] = x.trace(i);
        }
        all[n] = x.fault();
        return all;
    }

    private static void refused(String told, ToIntFunction<PaidInLeaves> call, int answer) {
        refused(RefusalsTest::scene, told, call, answer);
    }

    private static void refused(Supplier<PaidInLeaves> made, String told, ToIntFunction<PaidInLeaves> call, int answer) {
        PaidInLeaves x = made.get();
        PaidInLeaves twin = made.get();
        Due.due(told, call.applyAsInt(x), answer);
        int counted = 10 + -answer % 10;
        alike(told, picture(x), picture(twin), counted);
        if (twin.restore() >= 0) {
            Due.due(told + ", then restore()", x.restore(), twin.status(0));
            alike(told + ", then restore()", picture(x), picture(twin), counted);
        }
    }

    private static void alike(String told, long[] got, long[] want, int counted) {
        for (int i = 0; i < want.length; i++) {
            Due.due(told + ": the picture's " + i, got[i], i == counted ? want[i] + 1 : want[i]);
        }
    }

    private static void rowRefuses() {
        for (int s : new int[] {-1, 8, MIN, MAX}) {
            refused("row(" + s + ", 0, 1)", x -> x.row(s, 0, 1), -1);
            refused("row(" + s + ", 4, -1)", x -> x.row(s, 4, -1), -1);
            refused("row(" + s + ", 0, 161)", x -> x.row(s, 0, 161), -1);
        }
        for (int n : new int[] {-1, MIN}) {
            refused("row(0, 0, " + n + ")", x -> x.row(0, 0, n), -4);
            refused("row(2, 4, " + n + ")", x -> x.row(2, 4, n), -4);
        }
        for (int sort : new int[] {-1, 4, MIN, MAX}) {
            refused("row(0, " + sort + ", 0)", x -> x.row(0, sort, 0), -6);
            refused("row(0, " + sort + ", 161)", x -> x.row(0, sort, 161), -6);
        }
        for (int n : new int[] {161, MAX}) {
            refused("row(0, 3, " + n + ")", x -> x.row(0, 3, n), -7);
        }
    }

    private static void setRefuses() {
        for (int s : new int[] {-1, 8, MIN, MAX}) {
            refused("set(" + s + ", -1, 5)", x -> x.set(s, -1, 5), -1);
        }
        for (int i : new int[] {-1, 0, MAX}) {
            refused("set of a shop at " + i, x -> x.set(STAMPED_SHOP, i, 5), -2);
            refused("set of nothing at " + i, x -> x.set(NOTHING, i, 5), -3);
        }
        for (int i : new int[] {-1, 6, 160, MIN, MAX}) {
            refused("set(0, " + i + ", 5)", x -> x.set(BYTES_ROW, i, 5), -5);
        }
        refused("set of an empty row", x -> x.set(EMPTY_ROW, 0, 5), -5);
    }

    private static void copyRefuses() {
        for (int s : new int[] {-1, 8, MIN, MAX}) {
            refused("copy from " + s, x -> x.copy(s, STAMPED_SHOP, -1, -1, -1), -1);
            refused("copy to " + s, x -> x.copy(STAMPED_SHOP, s, -1, -1, -1), -1);
        }
        refused("copy from a shop", x -> x.copy(STAMPED_SHOP, BYTES_ROW, -1, -1, -1), -2);
        refused("copy to a shop", x -> x.copy(BYTES_ROW, STAMPED_SHOP, -1, -1, -1), -2);
        refused("copy from a shop to nothing", x -> x.copy(STAMPED_SHOP, NOTHING, -1, -1, -1), -2);
        refused("copy from nothing to a shop", x -> x.copy(NOTHING, STAMPED_SHOP, -1, -1, -1), -2);
        refused("copy of two sorts", x -> x.copy(BYTES_ROW, INTS_ROW, -1, -1, -1), -2);
        refused("copy of two sorts, one empty", x -> x.copy(EMPTY_ROW, INTS_ROW, 0, 0, 0), -2);
        refused("copy from nothing", x -> x.copy(NOTHING, BYTES_ROW, -1, -1, -1), -3);
        refused("copy to nothing", x -> x.copy(BYTES_ROW, NOTHING, -1, -1, -1), -3);
        refused("copy of nothing to itself", x -> x.copy(NOTHING, NOTHING, 0, 0, 0), -3);
        for (int n : new int[] {-1, MIN}) {
            refused("copy of " + n, x -> x.copy(BYTES_ROW, WRONG_DEEDS, -1, -1, n), -4);
        }
        // six elements in the one, three in the other
        int[][] beyond = {{-1, 0, 1}, {0, -1, 1}, {-1, 0, 0}, {0, -1, 0}, {7, 0, 0}, {0, 4, 0}, {6, 0, 1}, {0, 3, 1},
            {4, 0, 3}, {0, 1, 3}, {0, 0, 4}, {0, 0, 7}, {MAX, 0, 1}, {0, MAX, 1}, {MIN, 0, 1}, {0, MIN, 1}, {1, 1, MAX},
            {0, 0, MAX}, {MAX, MAX, MAX}};
        for (int[] b : beyond) {
            refused("copy(0, 4, " + b[0] + ", " + b[1] + ", " + b[2] + ")",
                x -> x.copy(BYTES_ROW, WRONG_DEEDS, b[0], b[1], b[2]), -5);
        }
        refused("copy onto itself beyond the end", x -> x.copy(BYTES_ROW, BYTES_ROW, 0, 1, 6), -5);
    }

    private static void showRefuses() {
        for (int s : new int[] {-1, 8, MIN, MAX}) {
            refused("show(" + s + ", 0)", x -> x.show(s, 0), -1);
            refused("show(" + s + ", NONE)", x -> x.show(s, -1), -1);
        }
        for (int shop : new int[] {-2, 3, MIN, MAX}) {
            refused("show(0, " + shop + ")", x -> x.show(0, shop), -1);
            refused("show(2, " + shop + ")", x -> x.show(STAMPED_SHOP, shop), -1);
        }
        refused(PaidInLeaves::new, "show(0, 0) without shops", x -> x.show(0, 0), -1);
    }

    private static void saysRefuses() {
        for (int s : new int[] {-1, 8, MIN, MAX}) {
            refused("says(" + s + ", 0)", x -> x.says(s, 0), -1);
        }
        for (int kind : new int[] {-1, 7, MIN, MAX}) {
            refused("says of a shop as " + kind, x -> x.says(STAMPED_SHOP, kind), -1);
            refused("says of a row as " + kind, x -> x.says(BYTES_ROW, kind), -1);
            refused("says of nothing as " + kind, x -> x.says(NOTHING, kind), -1);
        }
        for (int kind : new int[] {1, 2, 3, 5, 6}) {
            refused("says of a STAMPED shop as " + kind, x -> x.says(STAMPED_SHOP, kind), -2);
        }
        for (int kind : new int[] {2, 3, 4, 5, 6}) {
            refused("says of a DEAR shop as " + kind, x -> x.says(DEAR_SHOP, kind), -2);
        }
        for (int kind = 0; kind < 7; kind++) {
            int as = kind;
            refused("says of a row as " + kind, x -> x.says(EMPTY_ROW, as), -2);
            refused("says of nothing as " + kind, x -> x.says(NOTHING, as), -3);
        }
    }

    private static void shopAndChildRefuse() {
        for (int kind : new int[] {-1, 7, MIN, MAX}) {
            refused("shop(" + kind + ", 0, 1)", x -> x.shop(kind, 0, 1), -1);
            refused("shop(" + kind + ", 10, 0)", x -> x.shop(kind, 10, 0), -1);
            refused(RefusalsTest::full, "a seventh shop of kind " + kind, x -> x.shop(kind, 0, 1), -1);
        }
        for (int a : new int[] {-1, 10, MIN, MAX}) {
            refused("shop(0, " + a + ", 1)", x -> x.shop(0, a, 1), -6);
            refused(RefusalsTest::full, "a seventh shop with a " + a, x -> x.shop(0, a, 1), -6);
        }
        for (int price : new int[] {-1, 0, 1000, MIN, MAX}) {
            refused("shop(6, 9, " + price + ")", x -> x.shop(6, 9, price), -6);
            refused(RefusalsTest::full, "a seventh shop of price " + price, x -> x.shop(6, 9, price), -6);
        }
        refused(RefusalsTest::full, "a seventh shop", x -> x.shop(0, 0, 1), -7);
        for (int nimble : new int[] {-1, 0, 100, MIN, MAX}) {
            refused("child(" + nimble + ", 0)", x -> x.child(nimble, 0), -6);
            refused(RefusalsTest::full, "a seventh child(" + nimble + ", 0)", x -> x.child(nimble, 0), -6);
        }
        for (int leaves : new int[] {-1, 10000, MIN, MAX}) {
            refused("child(1, " + leaves + ")", x -> x.child(1, leaves), -6);
            refused(RefusalsTest::full, "a seventh child(1, " + leaves + ")", x -> x.child(1, leaves), -6);
        }
        refused(RefusalsTest::full, "a seventh child", x -> x.child(1, 0), -7);
    }

    private static void ofRefuse() {
        for (int one : new int[] {-1, 3, MIN, MAX}) {
            refused("shopOf(" + one + ", 0)", x -> x.shopOf(one, 0), -5);
            refused("childOf(" + one + ", 0)", x -> x.childOf(one, 0), -5);
            refused("shopOf(" + one + ", 6)", x -> x.shopOf(one, 6), -5);
            refused("childOf(" + one + ", 6)", x -> x.childOf(one, 6), -5);
        }
        for (int what : new int[] {-1, 6, MIN, MAX}) {
            refused("shopOf(2, " + what + ")", x -> x.shopOf(2, what), -5);
            refused("childOf(2, " + what + ")", x -> x.childOf(2, what), -5);
        }
        refused(RefusalsTest::full, "shopOf(6, 0)", x -> x.shopOf(6, 0), -5);
        refused(RefusalsTest::full, "childOf(6, 0)", x -> x.childOf(6, 0), -5);
        refused(PaidInLeaves::new, "shopOf(0, 0)", x -> x.shopOf(0, 0), -5);
        refused(PaidInLeaves::new, "childOf(0, 0)", x -> x.childOf(0, 0), -5);
    }

    private static void tellKeepsAskRefuse() {
        for (int child : new int[] {-1, 3, MIN, MAX}) {
            refused("tell(" + child + ", 1, 1)", x -> x.tell(child, 1, 1), -1);
            refused("tell(" + child + ", 4, -1)", x -> x.tell(child, 4, -1), -1);
            refused("keeps(" + child + ", 0)", x -> x.keeps(child, 0), -11);
            refused("keeps(" + child + ", NONE)", x -> x.keeps(child, -1), -11);
        }
        for (int what : new int[] {-1, 0, 4, MIN, MAX}) {
            refused("tell(0, " + what + ", 1)", x -> x.tell(0, what, 1), -6);
        }
        int[][] most = {{1, 9999}, {2, 9999}, {3, 99}};
        for (int[] m : most) {
            for (int v : new int[] {-1, m[1] + 1, MIN, MAX}) {
                refused("tell(2, " + m[0] + ", " + v + ")", x -> x.tell(2, m[0], v), -6);
            }
        }
        for (int shop : new int[] {-2, 3, MIN, MAX}) {
            refused("keeps(2, " + shop + ")", x -> x.keeps(2, shop), -11);
        }
        for (int v : new int[] {-1, 100, MIN, MAX}) {
            refused("ask(0, " + v + ")", x -> x.ask(0, v), -6);
        }
        for (int v : new int[] {-1, 10000, MIN, MAX}) {
            refused("ask(1, " + v + ")", x -> x.ask(1, v), -6);
        }
        for (int what : new int[] {-1, 2, MIN, MAX}) {
            refused("ask(" + what + ", 1)", x -> x.ask(what, 1), -6);
        }
    }

    private static void gardenRefuses() {
        for (int s : new int[] {-1, 8, MIN, MAX}) {
            refused("garden(" + s + ")", x -> x.garden(s), -1);
        }
        refused("garden of a shop", x -> x.garden(STAMPED_SHOP), -2);
        refused("garden of nothing", x -> x.garden(NOTHING), -3);
        // the scene has read this text before: its fault is the same again
        refused("garden with a fault", x -> x.garden(FAULTY_TEXT), -6);
    }

    private static void mayRefuses() {
        for (int child : new int[] {-1, 3, MIN, MAX}) {
            refused("may(" + child + ")", x -> x.may(child), -1);
        }
        refused(PaidInLeaves::new, "may(0) without children", x -> x.may(0), -1);
    }

    private static void behindRefuses() {
        for (int child : new int[] {-1, 3, MIN, MAX}) {
            refused("behind no child " + child, x -> x.behind(0, 1, child, 1), -1);
            refused("behind no child " + child + ", all wrong", x -> x.behind(4, 241, child, 0), -1);
        }
        for (int what : new int[] {-1, 0, 3, 5, MIN, MAX}) {
            refused("behind what " + what, x -> x.behind(0, 1, 2, what), -5);
            refused("behind what " + what + ", all wrong", x -> x.behind(4, 241, 2, what), -5);
        }
        wrongRules("behind", (x, rule, n) -> x.behind(rule, n, 2, 4), -6);
    }

    private interface ByRule {
        int ask(PaidInLeaves x, int rule, int n);
    }

    private static void wrongRules(String told, ByRule call, int answer) {
        for (int rule : new int[] {-1, 4, MIN, MAX}) {
            refused(told + " by rule " + rule, x -> call.ask(x, rule, 1), answer);
            refused(told + " by rule " + rule + " in 241", x -> call.ask(x, rule, 241), answer);
        }
        for (int n : new int[] {-1, 241, MIN, MAX}) {
            refused(told + " in " + n, x -> call.ask(x, 3, n), answer);
        }
    }

    private static void asksDealsRefuse() {
        for (int shop : new int[] {-1, 3, MIN, MAX}) {
            refused("asks of no shop " + shop, x -> x.asks(0, 1, shop), -1);
            refused("asks of no shop " + shop + ", all wrong", x -> x.asks(4, -1, shop), -1);
        }
        wrongRules("asks", (x, rule, n) -> x.asks(rule, n, 2), -6);
        for (int what : new int[] {-1, 2, MIN, MAX}) {
            refused("deals what " + what, x -> x.deals(0, 1, what), -5);
            refused("deals what " + what + ", all wrong", x -> x.deals(4, -1, what), -5);
        }
        wrongRules("deals", (x, rule, n) -> x.deals(rule, n, 0), -6);
        wrongRules("till", (x, rule, n) -> x.deals(rule, n, 1), -6);
    }

    private static void runsSettlesRefuse() {
        for (int shop : new int[] {-1, 3, MIN, MAX}) {
            refused("runs of no shop " + shop, x -> x.runs(0, 1, shop), -11);
            refused("runs of no shop " + shop + ", all wrong", x -> x.runs(4, -1, shop), -11);
        }
        wrongRules("runs", (x, rule, n) -> x.runs(rule, n, 2), -16);
        for (int what : new int[] {-1, 2, MIN, MAX}) {
            refused("settles what " + what, x -> x.settles(0, what), -15);
            refused("settles what " + what + ", all wrong", x -> x.settles(4, what), -15);
        }
        for (int rule : new int[] {-1, 4, MIN, MAX}) {
            refused("settles by rule " + rule, x -> x.settles(rule, 0), -16);
            refused("stops by rule " + rule, x -> x.settles(rule, 1), -16);
        }
    }

    private static void pickedTrustRefuse() {
        for (int one : new int[] {-1, 3, MIN, MAX}) {
            refused("picked(" + one + ", 0)", x -> x.picked(one, 0), -1);
            refused("picked(0, " + one + ")", x -> x.picked(0, one), -1);
            refused("picked(" + one + ", " + one + ")", x -> x.picked(one, one), -1);
            refused("trust(" + one + ", 0)", x -> x.trust(one, 0), -11);
            refused("trust(0, " + one + ")", x -> x.trust(0, one), -11);
            refused("trust(" + one + ", " + one + ")", x -> x.trust(one, one), -11);
        }
    }

    /** What is refused only if there are no shops, or no children. */
    private static void lonelyRefuse() {
        Supplier<PaidInLeaves> noShops = () -> {
            PaidInLeaves x = new PaidInLeaves();
            x.child(3, 4);
            return x;
        };
        Supplier<PaidInLeaves> noChildren = () -> {
            PaidInLeaves x = new PaidInLeaves();
            x.shop(5, 3, 4);
            return x;
        };
        refused(noShops, "cheapest() without shops", x -> x.cheapest(), -5);
        refused(noShops, "keepers(1, NONE) without shops", x -> x.keepers(1, -1), -6);
        refused(noShops, "picked(0, 0) without shops", x -> x.picked(0, 0), -1);
        refused(noShops, "trust(0, 0) without shops", x -> x.trust(0, 0), -11);
        refused(noShops, "asks(0, 0, 0) without shops", x -> x.asks(0, 0, 0), -1);
        refused(noShops, "runs(0, 0, 0) without shops", x -> x.runs(0, 0, 0), -11);
        refused(noShops, "keeps(0, 0) without shops", x -> x.keeps(0, 0), -11);
        refused(noShops, "does(0, 10) without shops", x -> x.does(0, 10), -6);
        refused(noChildren, "bored(0, 0) without children", x -> x.bored(0, 0), -5);
        refused(noChildren, "bored(4, 0) without children", x -> x.bored(4, 0), -5);
        refused(noChildren, "bored(0, 241) without children", x -> x.bored(0, 241), -5);
        refused(noChildren, "keepers(1, NONE) without children", x -> x.keepers(1, -1), -6);
        refused(noChildren, "picked(0, 0) without children", x -> x.picked(0, 0), -1);
        refused(noChildren, "trust(0, 0) without children", x -> x.trust(0, 0), -11);
        refused(noChildren, "behind(0, 0, 0, 1) without children", x -> x.behind(0, 0, 0, 1), -1);
        refused(noChildren, "does(0, 0) without children", x -> x.does(0, 0), -1);
    }

    private static void moneyInkedBankRotRefuse() {
        for (int n : new int[] {-1, 241, MIN, MAX}) {
            refused("money(" + n + ")", x -> x.money(n), -6);
            refused("bank(" + n + ")", x -> x.bank(n), -6);
        }
        for (int n : new int[] {-1, 61, 240, MIN, MAX}) {
            refused("inked(" + n + ")", x -> x.inked(n), -6);
        }
        wrongRules("rot", (x, rule, n) -> x.rot(rule, n), -6);
    }

    private static void keepersRefuse() {
        for (int k : new int[] {0, -1, 4, 5, MIN, MAX}) {
            for (int i : new int[] {-2, -1, 0, k, MAX}) {
                refused("keepers(" + k + ", " + i + ")", x -> x.keepers(k, i), -6);
            }
        }
        refused(RefusalsTest::full, "keepers(5, NONE) of six", x -> x.keepers(5, -1), -6);
        for (int k = 1; k < 4; k++) {
            int ways = k;
            for (int i : new int[] {-2, k, MIN, MAX}) {
                refused("keepers(" + k + ", " + i + ")", x -> x.keepers(ways, i), -5);
            }
        }
        refused(RefusalsTest::full, "keepers(4, 4) of six", x -> x.keepers(4, 4), -5);
        Supplier<PaidInLeaves> fewChildren = () -> {
            PaidInLeaves x = new PaidInLeaves();
            for (int i = 0; i < 4; i++) {
                x.shop(0, 0, 1);
            }
            x.child(1, 1);
            return x;
        };
        refused(fewChildren, "keepers(2, 0) of one child", x -> x.keepers(2, 0), -6);
    }

    private static void boredRefuses() {
        wrongRules("bored", (x, rule, n) -> x.bored(rule, n), -6);
    }

    private static void judgeToldDoneRefuse() {
        toldRows(-10, "judge", (x, s, n) -> x.judge(s, n));
        toldRows(0, "told", (x, s, n) -> x.told(s, n, 0));
        toldRows(0, "told with a wrong what", (x, s, n) -> x.told(s, n, 2));
        toldRows(0, "done", (x, s, n) -> x.done(s, n));
        for (int what : new int[] {-1, 2, 9, 13, 16, MIN, MAX}) {
            refused("told what " + what, x -> x.told(BYTES_ROW, 3, what), -5);
            refused("told what " + what + " of wrong deeds", x -> x.told(WRONG_DEEDS, 3, what), -5);
        }
        for (int what : new int[] {0, 1, 10, 12}) {
            refused("told what " + what + " of wrong deeds", x -> x.told(WRONG_DEEDS, 3, what), -6);
        }
        refused("done of wrong deeds", x -> x.done(WRONG_DEEDS, 3), -6);
    }

    private interface OfRow {
        int ask(PaidInLeaves x, int s, int n);
    }

    private static void toldRows(int apart, String told, OfRow call) {
        for (int s : new int[] {-1, 8, MIN, MAX}) {
            refused(told + "(" + s + ", -1)", x -> call.ask(x, s, -1), apart - 1);
        }
        for (int n : new int[] {-1, 0, 161}) {
            refused(told + " of a shop, " + n, x -> call.ask(x, STAMPED_SHOP, n), apart - 2);
            refused(told + " of nothing, " + n, x -> call.ask(x, NOTHING, n), apart - 3);
        }
        for (int n : new int[] {-1, MIN}) {
            refused(told + " of " + n, x -> call.ask(x, WRONG_DEEDS, n), apart - 4);
        }
        for (int n : new int[] {4, 160, 161, MAX}) {
            refused(told + " of " + n + " in three", x -> call.ask(x, WRONG_DEEDS, n), apart - 5);
        }
        refused(told + " of 1 in none", x -> call.ask(x, EMPTY_ROW, 1), apart - 5);
    }

    private static void heapDoesRefuse() {
        for (int rule : new int[] {-1, 4, MIN, MAX}) {
            refused("heap(" + rule + ", 0)", x -> x.heap(rule, 0), -16);
            refused("heap(" + rule + ", -1)", x -> x.heap(rule, -1), -16);
        }
        for (int v : new int[] {-1, MIN}) {
            refused("heap(0, " + v + ")", x -> x.heap(0, v), -16);
        }
        for (int child : new int[] {-1, 3, MIN, MAX}) {
            refused("does(" + child + ", 0)", x -> x.does(child, 0), -1);
            refused("does(" + child + ", -1)", x -> x.does(child, -1), -1);
        }
        // child 2 keeps shop 0, child 1 has no feathers, there are three shops
        for (int deed : new int[] {-1, 4, 5, 6, 7, 8, 9, 10, 13, 14, 15, 16, MIN, MAX}) {
            refused("does(2, " + deed + ")", x -> x.does(2, deed), -6);
        }
        refused("does(1, 3)", x -> x.does(1, 3), -6);
    }

    private static void minuteAfternoonRefuse() {
        for (int rule : new int[] {-1, 4, MIN, MAX}) {
            refused("minute(" + rule + ")", x -> x.minute(rule), -6);
        }
        for (int n : new int[] {0, -1, 241, MIN, MAX}) {
            refused("afternoon(" + n + ")", x -> x.afternoon(n), -6);
        }
    }

    private static void restoreRefuses() {
        refused(RefusalsTest::full, "restore() without an image", x -> x.restore(), -6);
        refused(PaidInLeaves::new, "restore() of a new one", x -> x.restore(), -6);
    }

    /** -1 and 0 where nothing is refused: no count goes up. */
    private static void answersThatAreNoRefusals() {
        PaidInLeaves x = new PaidInLeaves();
        for (int far : FAR) {
            Due.due("element(" + far + ", 0)", x.element(far, 0), 0);
            Due.due("holds(" + far + ")", x.holds(far), -1);
            Due.due("trace(" + far + ")", x.trace(far), -1);
            Due.due("status(" + far + ")", x.status(far), -1);
            Due.due("act(" + far + ", 0, 0)", x.act(far, 0, 0), 0);
        }
        x.shop(0, 0, 9);
        x.child(1, 0);
        x.ask(1, 0);
        x.row(0, 0, 1);
        Due.due("keeps was NONE", x.keeps(0, 0), -1);
        Due.due("trust NONE", x.trust(0, 0), -1);
        Due.due("heap NONE", x.heap(0, 1), -1);
        Due.due("judge NONE", x.judge(0, 1), -1);
        Due.due("seed", x.seed(-7), 1);
        Due.due("seed was -7", x.seed(0), -7);
        x.tell(0, 1, 9999);
        x.keeps(0, -1);
        x.shop(0, 0, 1);
        Due.due("stops NONE", x.settles(0, 1), -1);
        x.shop(2, 1, 5);
        Due.due("runs down", x.runs(0, 1, 2), -1);
        Due.refused(x, 0, 0, 0, 0, 0, 0, 0);
    }
}
