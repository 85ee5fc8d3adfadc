/** Promises 18 to 32 and 36: what may be, and all that is thought ahead by rules. */
public final class ThoughtTest {
    private static final int NONE = -1;

    public static void main(String[] args) {
        mayBe();
        mayBuy();
        asksByKinds();
        asksLimits();
        greed();
        save();
        stamps();
        shy();
        behindRefusals();
        keeperIsPaid();
        runs();
        settles();
        picked();
        cheapest();
        money();
        inked();
        keepers();
        bored();
        bankAndRot();
        trust();
        heap();
        thoughtChangesNothing();
        Due.end();
    }

    private static void mayBe() {
        PaidInLeaves x = new PaidInLeaves();
        Due.due("no child", x.may(0), -1);
        x.child(4, 0);
        Due.due("rest, pick", x.may(0), 3);
        x.tell(0, 1, 1);
        Due.due("rest, pick, stamp", x.may(0), 7);
        x.ask(0, 0);
        Due.due("no ink", x.may(0), 3);
        x.ask(1, 0);
        Due.due("no tree", x.may(0), 1);
        x.tell(0, 3, 1);
        Due.due("a feather", x.may(0), 9);
        Due.due("no child below", x.may(-1), -1);
        Due.refused(x, 2, 0, 0, 0, 0, 0, 0);
    }

    private static void mayBuy() {
        PaidInLeaves x = new PaidInLeaves();
        x.child(4, 6);
        x.ask(1, 0);
        x.ask(0, 0);
        for (int kind = 0; kind < 6; kind++) {
            x.shop(kind, 1, 7);
        }
        Due.due("too poor", x.may(0), 1);
        x.tell(0, 2, 1);
        Due.due("leaves and stamps", x.may(0), 1 | 1 << 10 | 1 << 11 | 1 << 12 | 1 << 13 | 1 << 15);
        x.tell(0, 2, 7);
        Due.due("stamps", x.may(0), 1 | 63 << 10);
        x.keeps(0, 4);
        Due.due("not in its own shop", x.may(0), 1 | 47 << 10);
        x.child(1, 0);
        x.tell(1, 2, 7);
        x.keeps(1, 4);
        Due.due("nor as the second keeper", x.may(1), 1 | 47 << 10);
    }

    private static void asksByKinds() {
        PaidInLeaves x = new PaidInLeaves();
        for (int kind = 0; kind < 6; kind++) {
            x.shop(kind, 2, 20);
        }
        x.child(1, 9999);
        x.tell(0, 2, 9999);
        int[] sold3 = {20, 26, 20, 38, 20, 20};
        int[] quiet4 = {20, 26, 12, 38, 20, 16};
        for (int s = 0; s < 6; s++) {
            for (int i = 0; i < 3; i++) {
                Due.due("buys", x.does(0, 10 + s), 1);
            }
            Due.due("asks by sold of " + s, x.shopOf(s, 5), sold3[s]);
        }
        x.tell(0, 1, 0);
        x.tell(0, 2, 0);
        for (int i = 0; i < 4; i++) {
            x.minute(0);
        }
        for (int s = 0; s < 6; s++) {
            Due.due("asks by quiet of " + s, x.shopOf(s, 5), quiet4[s]);
            Due.due("asks in no minutes of " + s, x.asks(0, 0, s), quiet4[s]);
        }
        PaidInLeaves y = new PaidInLeaves();
        y.shop(6, 2, 20);
        y.child(1, 0);
        y.tell(0, 2, 99);
        y.does(0, 10);
        Due.due("FINE asks more", y.shopOf(0, 5), 22);
    }

    private static void asksLimits() {
        PaidInLeaves x = new PaidInLeaves();
        x.shop(2, 9, 20);
        x.shop(5, 0, 20);
        x.shop(3, 9, 999);
        Due.due("SLACK behind 2", x.asks(0, 2, 0), 2);
        Due.due("SLACK behind 3", x.asks(0, 3, 0), 1);
        Due.due("SLACK behind 240", x.asks(0, 240, 0), 1);
        Due.due("LAZY behind 19", x.asks(0, 19, 1), 1);
        Due.due("LAZY behind 240", x.asks(0, 240, 1), 1);
        x.child(1, 0);
        for (int i = 0; i < 32; i++) {
            x.tell(0, 1, 9999);
            x.does(0, 12);
        }
        Due.due("GREEDY at most", x.shopOf(2, 5), 9999);
        Due.due("sold", x.shopOf(2, 3), 32);
    }

    private static void greed() {
        PaidInLeaves x = new PaidInLeaves();
        x.shop(1, 3, 4);
        x.shop(0, 0, 7);
        x.child(5, 9);
        // minute 1: the dear one at 4 (5 left); 2: picks, for both ask 7 (10); 3: of both at 7 the first (3); 4: picks (8)
        Due.due("leaves 1", x.behind(0, 1, 0, 1), 5);
        Due.due("leaves 2", x.behind(0, 2, 0, 1), 10);
        Due.due("leaves 3", x.behind(0, 3, 0, 1), 3);
        Due.due("the first of two", x.asks(0, 3, 0), 10);
        Due.due("leaves 4", x.behind(0, 4, 0, 1), 8);
        // 5: the plain one at 7, since the dear one asks 10
        Due.due("leaves 5", x.behind(0, 5, 0, 1), 1);
        Due.due("cakes 5", x.behind(0, 5, 0, 4), 3);
        Due.due("stamps 5", x.behind(0, 5, 0, 2), 0);
        Due.due("deals 5", x.deals(0, 5, 0), 3);
        Due.due("till 5", x.deals(0, 5, 1), 18);
        x.ask(1, 0);
        Due.due("rests when the tree is empty", x.behind(0, 240, 0, 1), 5);
    }

    private static void save() {
        PaidInLeaves x = new PaidInLeaves();
        x.shop(0, 0, 10);
        x.child(7, 40);
        Due.due("47", x.behind(1, 1, 0, 1), 47);
        Due.due("54", x.behind(1, 2, 0, 1), 54);
        Due.due("44", x.behind(1, 3, 0, 1), 44);
        x.tell(0, 1, 50);
        Due.due("buys with 50", x.behind(1, 1, 0, 1), 40);
        x.tell(0, 1, 49);
        x.ask(1, 0);
        Due.due("rests with 49", x.behind(1, 1, 0, 1), 49);
    }

    private static void stamps() {
        PaidInLeaves x = new PaidInLeaves();
        x.shop(4, 0, 7);
        x.child(3, 12);
        // 12/0, 7/5, 2/10, buys: 2/3, picks: 5/3, stamps: 0/8, buys: 0/1
        Due.due("leaves 1", x.behind(2, 1, 0, 1), 7);
        Due.due("stamps 2", x.behind(2, 2, 0, 2), 10);
        Due.due("stamps 3", x.behind(2, 3, 0, 2), 3);
        Due.due("leaves 4", x.behind(2, 4, 0, 1), 5);
        Due.due("stamps 5", x.behind(2, 5, 0, 2), 8);
        Due.due("stamps 6", x.behind(2, 6, 0, 2), 1);
        Due.due("leaves 6", x.behind(2, 6, 0, 1), 0);
        x.ask(0, 0);
        Due.due("rests without ink", x.behind(2, 9, 0, 1), 12);
        Due.due("no deals without ink", x.deals(2, 9, 0), 0);
        Due.due("the tree too", x.status(5), 999);
    }

    private static void shy() {
        PaidInLeaves x = new PaidInLeaves();
        x.shop(0, 0, 21);
        x.child(2, 100);
        Due.due("does not buy above 20", x.behind(3, 1, 0, 1), 102);
        Due.due("greed does", x.behind(0, 1, 0, 1), 79);
        x.shop(0, 0, 20);
        Due.due("buys at 20", x.behind(3, 1, 0, 1), 80);
        x.ask(1, 0);
        x.keeps(0, 1);
        Due.due("rests", x.behind(3, 1, 0, 1), 100);
    }

    private static void behindRefusals() {
        PaidInLeaves x = new PaidInLeaves();
        x.shop(0, 0, 1);
        x.child(1, 1);
        Due.due("behind no child", x.behind(9, 999, 1, 0), -1);
        Due.due("behind what 0", x.behind(9, 999, 0, 0), -5);
        Due.due("behind what 3", x.behind(0, 1, 0, 3), -5);
        Due.due("behind what 5", x.behind(0, 1, 0, 5), -5);
        Due.due("behind rule 4", x.behind(4, 1, 0, 1), -6);
        Due.due("behind rule -1", x.behind(-1, 1, 0, 1), -6);
        Due.due("behind 241", x.behind(0, 241, 0, 1), -6);
        Due.due("behind -1", x.behind(0, -1, 0, 1), -6);
        Due.due("asks of no shop", x.asks(9, 999, 1), -1);
        Due.due("asks by rule 4", x.asks(4, 0, 0), -6);
        Due.due("asks behind 241", x.asks(0, 241, 0), -6);
        Due.due("deals what 2", x.deals(9, 999, 2), -5);
        Due.due("deals what -1", x.deals(0, 0, -1), -5);
        Due.due("deals rule 4", x.deals(4, 0, 0), -6);
        Due.due("deals 241", x.deals(0, 241, 1), -6);
        Due.due("runs of no shop", x.runs(9, 999, 1), -11);
        Due.due("runs of no shop below", x.runs(0, 0, -1), -11);
        Due.due("runs by rule 4", x.runs(4, 0, 0), -16);
        Due.due("runs 241", x.runs(0, 241, 0), -16);
        Due.due("runs -1", x.runs(0, -1, 0), -16);
        Due.refused(x, 4, 0, 0, 0, 5, 11, 0);
    }

    private static void keeperIsPaid() {
        PaidInLeaves x = new PaidInLeaves();
        x.shop(0, 0, 10);
        x.child(1, 4);
        x.tell(0, 2, 8);
        x.child(1, 0);
        x.child(1, 0);
        x.keeps(1, 0);
        x.keeps(2, 0);
        x.ask(1, 0);
        Due.due("buyer's stamps", x.behind(0, 1, 0, 2), 2);
        Due.due("the first keeper's leaves", x.behind(0, 1, 1, 1), 4);
        Due.due("the first keeper's stamps", x.behind(0, 1, 1, 2), 6);
        Due.due("the second keeper's leaves", x.behind(0, 1, 2, 1), 0);
        Due.due("the till counts all the same", x.deals(0, 1, 1), 10);
        x.tell(1, 1, 9998);
        x.tell(1, 2, 9990);
        Due.due("above 9999 is lost", x.behind(0, 1, 1, 1), 9999);
        Due.due("not below", x.behind(0, 1, 1, 2), 9996);
    }

    private static void runs() {
        PaidInLeaves x = new PaidInLeaves();
        x.shop(1, 1, 1);
        x.shop(2, 1, 9);
        x.shop(0, 1, 999);
        x.child(1, 2);
        Due.due("runs up", x.runs(0, 1, 0), 1);
        Due.due("runs down", x.runs(0, 1, 1), -1);
        Due.due("runs nowhere", x.runs(0, 1, 2), 0);
        Due.due("runs not in no minutes", x.runs(0, 0, 0), 0);
    }

    private static void settles() {
        PaidInLeaves x = new PaidInLeaves();
        Due.due("nothing settles at once", x.settles(0, 0), 0);
        Due.due("nothing stops at once", x.settles(0, 1), 0);
        x.shop(5, 0, 9);
        Due.due("a lazy one settles at 1", x.settles(0, 0), 8);
        x.shop(0, 0, 4);
        x.child(4, 8);
        x.ask(1, 4);
        // buys at 4, buys at 4, picks, buys at 4; then there is nothing left, and 9 less 7 is above 0
        Due.due("stops", x.settles(0, 1), 4);
        x.child(1, 9999);
        Due.due("never stops", x.settles(0, 1), NONE);
        PaidInLeaves y = new PaidInLeaves();
        y.shop(1, 1, 1);
        y.child(1, 0);
        y.ask(1, 9999);
        Due.due("what 2", y.settles(9, 2), -15);
        Due.due("what -1", y.settles(0, -1), -15);
        Due.due("rule 4", y.settles(4, 0), -16);
        Due.due("rule -1", y.settles(-1, 1), -16);
        Due.refused(y, 0, 0, 0, 0, 2, 2, 0);
        lastMinutes();
    }

    /** One more cake in minute 238 and 239, of 0 to 239. */
    private static void lastMinutes() {
        for (int leaves = 238; leaves <= 240; leaves++) {
            PaidInLeaves x = new PaidInLeaves();
            x.shop(0, 0, 1);
            x.child(1, leaves);
            x.ask(1, 0);
            Due.due("stops behind " + leaves + " cakes", x.settles(0, 1), leaves < 240 ? leaves : NONE);
            PaidInLeaves y = new PaidInLeaves();
            y.shop(6, 1, 1);
            y.child(1, 0);
            y.ask(1, 0);
            y.tell(0, 2, leaves * (leaves + 1) / 2 > 9999 ? 9999 : 0);
            // 1 + 2 + .. + 140 is 9870
            Due.due("settles with the last cake", y.settles(0, 0), 140);
        }
    }

    private static void picked() {
        PaidInLeaves x = new PaidInLeaves();
        x.shop(0, 0, 12);
        x.child(12, 9999);
        x.child(11, 0);
        x.child(99, 0);
        x.ask(1, 0);
        Due.due("once", x.picked(0, 0), 1);
        Due.due("twice", x.picked(1, 0), 2);
        Due.due("rounded up", x.picked(2, 0), 1);
        Due.due("no child", x.picked(3, 0), -1);
        Due.due("no shop", x.picked(0, 1), -1);
        Due.refused(x, 2, 0, 0, 0, 0, 0, 0);
    }

    private static void cheapest() {
        PaidInLeaves x = new PaidInLeaves();
        Due.due("no shops", x.cheapest(), -5);
        x.shop(0, 0, 5);
        x.shop(4, 0, 4);
        x.shop(5, 0, 4);
        Due.due("the first of two", x.cheapest(), 1);
        x.minute(0);
        Due.due("by what it asks now", x.cheapest(), 2);
        Due.refused(x, 0, 0, 0, 0, 1, 0, 0);
    }

    private static void money() {
        PaidInLeaves x = new PaidInLeaves();
        Due.due("of nothing leaves", x.money(240), 0);
        x.shop(4, 0, 5);
        x.child(5, 0);
        // picks, stamps, buys: 1 deal in 3 minutes by stamps, none by leaves
        Due.due("leaves in 2", x.money(2), 0);
        Due.due("stamps in 3", x.money(3), 1);
        x.tell(0, 3, 1);
        Due.due("stamps before feathers", x.money(3), 1);
        Due.due("feathers in 2", x.money(2), 2);
        x.child(1, 0);
        x.tell(1, 3, 1);
        Due.due("all feathers", x.money(3), 2);
        Due.due("minutes -1", x.money(-1), -6);
        Due.due("minutes 241", x.money(241), -6);
        Due.refused(x, 0, 0, 0, 0, 0, 2, 0);
    }

    private static void inked() {
        PaidInLeaves x = new PaidInLeaves();
        Due.due("nobody's ink", x.inked(60), 0);
        x.shop(4, 0, 3);
        x.child(9, 9);
        // in two minutes: 3 at least are stamped, then one cake
        Due.due("in 1", x.inked(1), 0);
        Due.due("in 2: stamps above leaves", x.inked(2), 5);
        // 9 of 9 are stamped in the first minute, then three cakes
        Due.due("in 4", x.inked(4), 9);
        Due.due("ink stays", x.status(4), 5);
        Due.due("minutes 61", x.inked(61), -6);
        Due.due("minutes -1", x.inked(-1), -6);
        Due.refused(x, 0, 0, 0, 0, 0, 2, 0);
    }

    private static void keepers() {
        PaidInLeaves x = new PaidInLeaves();
        x.shop(0, 0, 10);
        x.shop(0, 0, 900);
        x.child(1, 20);
        x.child(1, 300);
        x.child(1, 20);
        x.ask(1, 0);
        x.keeps(1, 0);
        // 2 + 30 + 2 cakes can be bought: by whom the keeper is paid, it may buy no more; the rich one must not keep
        int most = x.keepers(1, NONE);
        Due.due("most deals", most, 32);
        Due.due("the first of the best", x.keepers(1, 0), 0);
        Due.due("keeps stay", x.childOf(1, 5), 1);
        Due.due("deals of two", x.keepers(2, NONE), 32);
        Due.due("the first shop's keeper", x.keepers(2, 0), 0);
        Due.due("the second's", x.keepers(2, 1), 1);
        Due.due("i of k", x.keepers(2, 2), -5);
        Due.due("i below", x.keepers(2, -2), -5);
        Due.due("more than shops", x.keepers(3, 0), -6);
        Due.due("k 0", x.keepers(0, -9), -6);
        Due.due("k 5", x.keepers(5, 9), -6);
        Due.due("k -1", x.keepers(-1, NONE), -6);
        Due.refused(x, 0, 0, 0, 0, 2, 4, 0);
        for (int i = 0; i < 3; i++) {
            x.shop(0, 0, 1);
        }
        Due.due("more than children", x.keepers(4, NONE), -6);
        Due.due("as many as children", x.keepers(3, 3), -5);
    }

    private static void bored() {
        PaidInLeaves x = new PaidInLeaves();
        Due.due("no children", x.bored(9, 999), -5);
        x.shop(0, 0, 5);
        x.child(1, 10);
        x.child(1, 5);
        x.child(1, 5);
        x.ask(1, 0);
        Due.due("all alike", x.bored(0, 1), 0);
        Due.due("the first of two", x.bored(0, 2), 1);
        x.does(1, 10);
        Due.due("cakes of before count", x.bored(0, 1), 0);
        Due.due("rule 4", x.bored(4, 1), -6);
        Due.due("minutes 241", x.bored(0, 241), -6);
        Due.refused(x, 0, 0, 0, 0, 1, 2, 0);
    }

    private static void bankAndRot() {
        PaidInLeaves x = new PaidInLeaves();
        Due.due("bank of nobody", x.bank(240), 0);
        Due.due("rot of nobody", x.rot(0, 240), 0);
        x.child(3, 4);
        x.child(5, 1);
        Due.due("bank now", x.bank(0), 4);
        Due.due("bank behind 2", x.bank(2), 11);
        // 2 of 4 and 1 of 1; 4 of 7 and 3 of 6
        Due.due("rot now", x.rot(0, 0), 3);
        Due.due("rot behind 1", x.rot(0, 1), 7);
        Due.due("bank -1", x.bank(-1), -6);
        Due.due("bank 241", x.bank(241), -6);
        Due.due("rot 241", x.rot(0, 241), -6);
        Due.due("rot by 4", x.rot(4, 0), -6);
        Due.refused(x, 0, 0, 0, 0, 0, 4, 0);
    }

    private static void trust() {
        PaidInLeaves x = new PaidInLeaves();
        x.shop(4, 0, 12);
        x.child(5, 2);
        x.tell(0, 2, 99);
        Due.due("two minutes", x.trust(0, 0), 2);
        x.tell(0, 1, 12);
        Due.due("at once", x.trust(0, 0), 0);
        x.tell(0, 1, 0);
        x.ask(1, 12);
        Due.due("the last of the tree", x.trust(0, 0), 3);
        x.ask(1, 11);
        Due.due("too few on the tree", x.trust(0, 0), NONE);
        x.shop(0, 0, 240);
        x.shop(0, 0, 241);
        x.child(1, 0);
        x.ask(1, 9999);
        Due.due("240 minutes", x.trust(1, 1), 240);
        Due.due("241 minutes", x.trust(1, 2), NONE);
        Due.due("no child", x.trust(2, 0), -11);
        Due.due("no shop", x.trust(0, 3), -11);
        Due.due("no shop below", x.trust(0, -1), -11);
        Due.refused(x, 3, 0, 0, 0, 0, 0, 0);
    }

    private static void heap() {
        PaidInLeaves x = new PaidInLeaves();
        Due.due("nothing at once", x.heap(0, 0), 0);
        Due.due("one never", x.heap(0, 1), NONE);
        x.shop(0, 0, 1);
        x.child(1, 240);
        Due.due("240 cakes", x.heap(0, 240), 240);
        Due.due("239 cakes", x.heap(0, 239), 239);
        Due.due("241 cakes", x.heap(0, 241), NONE);
        x.does(0, 10);
        Due.due("the till counts", x.heap(0, 1), 0);
        Due.due("rule 4", x.heap(4, 1), -16);
        Due.due("v -1", x.heap(0, -1), -16);
        Due.refused(x, 0, 0, 0, 0, 0, 2, 0);
    }

    private static void thoughtChangesNothing() {
        PaidInLeaves x = new PaidInLeaves();
        x.shop(1, 3, 4);
        x.child(5, 60);
        x.behind(0, 9, 0, 1);
        x.asks(1, 9, 0);
        x.deals(2, 9, 0);
        x.runs(3, 9, 0);
        x.settles(0, 0);
        x.settles(0, 1);
        x.money(9);
        x.inked(9);
        x.keepers(1, 0);
        x.bored(0, 9);
        x.bank(9);
        x.rot(0, 9);
        x.trust(0, 0);
        x.heap(0, 999);
        int[] child = {5, 60, 0, 0, 0, 0};
        int[] shop = {1, 3, 4, 0, 0, 4};
        int[] status = {1, 1, 0, 0, 5, 999, 0, 1};
        for (int what = 0; what < 6; what++) {
            Due.due("child " + what, x.childOf(0, what), child[what]);
            Due.due("shop " + what, x.shopOf(0, what), shop[what]);
        }
        for (int what = 0; what < 8; what++) {
            Due.due("status " + what, x.status(what), status[what]);
        }
        Due.refused(x, 0, 0, 0, 0, 0, 0, 0);
    }
}
