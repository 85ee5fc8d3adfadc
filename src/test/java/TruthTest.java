/** Promises 33 to 35 and 37 to 41: told afternoons, and what comes to pass in truth. */
public final class TruthTest {
    private static final int NONE = -1;

    public static void main(String[] args) {
        judges();
        judgesNoChildren();
        tells();
        tellRefusals();
        done();
        does();
        gives();
        limits();
        minutes();
        quiet();
        nights();
        draws();
        seeds();
        Due.end();
    }

    private static PaidInLeaves two() {
        PaidInLeaves x = new PaidInLeaves();
        x.shop(0, 0, 4);
        x.child(3, 2);
        x.child(2, 9);
        return x;
    }

    private static void judges() {
        PaidInLeaves x = two();
        Due.lay(x, 0, 1, 10, 10, 10, 10, 0, 2, 0);
        // minute 1: 5 and 5 leaves; 2: 1 and 1; 3: child 0 can't buy
        Due.due("all", x.judge(0, 8), 4);
        Due.due("two minutes", x.judge(0, 4), NONE);
        Due.due("two and a half", x.judge(0, 5), NONE);
        Due.due("three", x.judge(0, 6), 4);
        Due.due("none", x.judge(0, 0), NONE);
        Due.lay(x, 1, 0, 4, 0, 0);
        Due.due("no such deed", x.judge(1, 4), 1);
        Due.lay(x, 1, -1, 0, 0, 0);
        Due.due("a deed below 0", x.judge(1, 4), 0);
        Due.lay(x, 1, 0, 16, 0, 0);
        Due.due("deed 16", x.judge(1, 4), 1);
        Due.lay(x, 1, 0, 0, 0, 11);
        Due.due("no such shop", x.judge(1, 4), 3);
        x.row(2, 3, 2);
        x.set(2, 0, (5L << 32) + 1);
        Due.due("lowest 32 bits", x.judge(2, 2), NONE);
        x.set(2, 0, 1L << 31);
        Due.due("lowest 32 bits below 0", x.judge(2, 2), 0);
        x.row(2, 0, 160);
        Due.due("160", x.judge(2, 160), NONE);
        Due.due("161", x.judge(2, 161), -15);
        Due.due("no shelf", x.judge(8, -1), -11);
        Due.due("no shelf below", x.judge(-1, -1), -11);
        Due.due("nothing", x.judge(5, -1), -13);
        x.show(5, 0);
        Due.due("a shop", x.judge(5, -1), -12);
        Due.due("n -1", x.judge(2, -1), -14);
        Due.due("fewer elements", x.judge(1, 5), -15);
        Due.refused(x, 2, 1, 1, 1, 2, 0, 0);
    }

    private static void judgesNoChildren() {
        PaidInLeaves x = new PaidInLeaves();
        x.shop(5, 0, 9);
        Due.lay(x, 0, 99, 99);
        Due.due("judge", x.judge(0, 2), NONE);
        Due.due("told", x.told(0, 2, 1), 0);
        Due.due("told of no child", x.told(0, 2, 10), -5);
        Due.due("done", x.done(0, 2), 0);
        Due.due("no minutes", x.shopOf(0, 4), 0);
    }

    private static void tells() {
        PaidInLeaves x = two();
        x.does(1, 10);
        x.tell(1, 1, 9);
        Due.lay(x, 0, 1, 10, 10, 10, 10, 0);
        Due.due("deals", x.told(0, 4, 0), 3);
        Due.due("deals of whole minutes", x.told(0, 5, 0), 3);
        Due.due("deals of a minute", x.told(0, 3, 0), 1);
        Due.due("till with the one of before", x.told(0, 4, 1), 16);
        Due.due("cakes of 0", x.told(0, 4, 10), 1);
        Due.due("cakes of 1 with the one of before", x.told(0, 4, 11), 3);
        Due.due("nothing happened", x.status(6), 1);
        Due.due("deals of nothing", x.told(0, 0, 0), 0);
    }

    private static void tellRefusals() {
        PaidInLeaves x = two();
        Due.lay(x, 0, 10, 0);
        x.show(1, 0);
        Due.due("told no shelf", x.told(8, -1, 5), -1);
        Due.due("told a shop", x.told(1, -1, 5), -2);
        Due.due("told nothing", x.told(2, -1, 5), -3);
        Due.due("told n -1", x.told(0, -1, 5), -4);
        Due.due("told fewer elements", x.told(0, 3, 0), -5);
        Due.due("told what 2", x.told(0, 2, 2), -5);
        Due.due("told what 9", x.told(0, 2, 9), -5);
        Due.due("told what -1", x.told(0, 2, -1), -5);
        Due.due("told what 12", x.told(0, 2, 12), -5);
        Due.due("told of very many", x.told(0, 2, Integer.MAX_VALUE), -5);
        Due.due("told wrong", x.told(0, 2, 0), -6);
        Due.due("done no shelf", x.done(-1, -1), -1);
        Due.due("done a shop", x.done(1, -1), -2);
        Due.due("done nothing", x.done(2, -1), -3);
        Due.due("done n -1", x.done(0, -1), -4);
        Due.due("done fewer elements", x.done(0, 3), -5);
        Due.due("done wrong", x.done(0, 2), -6);
        Due.due("no minute", x.status(2), 0);
        Due.refused(x, 2, 2, 2, 2, 7, 2, 0);
    }

    private static void done() {
        PaidInLeaves x = two();
        x.shop(5, 0, 9);
        Due.lay(x, 0, 1, 10, 10, 10, 10, 0);
        Due.due("wrong", x.done(0, 6), -6);
        Due.due("as it was", x.childOf(0, 1), 2);
        Due.due("two minutes and a half", x.done(0, 5), 2);
        Due.due("leaves of 0", x.childOf(0, 1), 1);
        Due.due("leaves of 1", x.childOf(1, 1), 1);
        Due.due("deals", x.status(6), 3);
        Due.due("till", x.status(3), 12);
        Due.due("sold", x.shopOf(0, 3), 3);
        Due.due("quiet of the busy", x.shopOf(0, 4), 0);
        Due.due("quiet of the other", x.shopOf(1, 4), 2);
        Due.due("tree", x.status(5), 996);
        Due.due("nothing done", x.done(0, 1), 2);
    }

    private static void does() {
        PaidInLeaves x = two();
        Due.due("no child", x.does(2, 99), -1);
        Due.due("no child below", x.does(-1, 0), -1);
        for (int deed : new int[] {Integer.MIN_VALUE, -1, 3, 4, 9, 10, 11, 15, 16, Integer.MAX_VALUE}) {
            Due.due("may not: " + deed, x.does(0, deed), -6);
        }
        Due.due("rests", x.does(0, 0), 1);
        Due.due("picks", x.does(0, 1), 1);
        Due.due("leaves", x.childOf(0, 1), 5);
        Due.due("tree", x.status(5), 996);
        Due.due("buys", x.does(0, 10), 1);
        Due.due("leaves", x.childOf(0, 1), 1);
        Due.due("cakes", x.childOf(0, 4), 1);
        x.ask(0, 3);
        Due.due("stamps what there is", x.does(0, 2), 1);
        Due.due("stamps", x.childOf(0, 2), 1);
        Due.due("stamps 3 of 9", x.does(1, 2), 1);
        Due.due("leaves", x.childOf(1, 1), 6);
        Due.due("stamps", x.childOf(1, 2), 3);
        x.ask(1, 1);
        Due.due("picks the last", x.does(1, 1), 1);
        Due.due("leaves", x.childOf(1, 1), 7);
        Due.due("an empty tree", x.does(1, 1), -6);
        Due.due("buys for leaves", x.does(1, 10), 1);
        Due.due("leaves first", x.childOf(1, 1), 3);
        Due.due("buys for leaves and stamps", x.does(1, 10), 1);
        Due.due("leaves", x.childOf(1, 1), 0);
        Due.due("then stamps", x.childOf(1, 2), 2);
        Due.due("no minute", x.status(2), 0);
        Due.due("till", x.status(3), 12);
        Due.due("deals", x.status(6), 3);
        Due.refused(x, 2, 0, 0, 0, 0, 11, 0);
    }

    private static void gives() {
        PaidInLeaves x = two();
        x.tell(0, 3, 2);
        Due.due("gives", x.does(0, 3), 1);
        Due.due("feathers", x.childOf(0, 3), 1);
        Due.due("leaves", x.childOf(0, 1), 12);
        x.tell(0, 1, 9995);
        Due.due("gives again", x.does(0, 3), 1);
        Due.due("no more than 9999", x.childOf(0, 1), 9999);
        Due.due("the other got none", x.childOf(1, 3), 0);
        Due.due("tree", x.status(5), 999);
    }

    private static void limits() {
        PaidInLeaves x = two();
        x.tell(0, 1, 9998);
        x.does(0, 1);
        Due.due("picks to 9999", x.childOf(0, 1), 9999);
        Due.due("the tree loses all that is picked", x.status(5), 996);
        x.tell(0, 2, 9997);
        x.does(0, 2);
        Due.due("stamps to 9999", x.childOf(0, 2), 9999);
        Due.due("leaves that were stamped", x.childOf(0, 1), 9994);
        Due.due("still richer than 9999", x.may(0), 1 | 2 | 4 | 1 << 10);
        x.shop(4, 0, 999);
        x.keeps(1, 1);
        x.tell(1, 2, 9001);
        x.does(0, 11);
        Due.due("the keeper's stamps", x.childOf(1, 2), 9999);
        Due.due("the keeper's leaves", x.childOf(1, 1), 9);
        Due.due("the buyer's stamps", x.childOf(0, 2), 9000);
        Due.due("the buyer's leaves", x.childOf(0, 1), 9994);
    }

    private static void minutes() {
        PaidInLeaves x = two();
        Due.due("rule 4", x.minute(4), -6);
        Due.due("rule -1", x.minute(-1), -6);
        Due.due("greed", x.minute(0), 1);
        Due.due("picked", x.childOf(0, 1), 5);
        Due.due("bought", x.childOf(1, 1), 5);
        Due.due("save", x.minute(1), 2);
        Due.due("picked", x.childOf(0, 1), 8);
        Due.due("picked", x.childOf(1, 1), 7);
        Due.due("stamps", x.minute(2), 3);
        Due.due("stamped", x.childOf(0, 2), 5);
        Due.due("stamped", x.childOf(1, 2), 5);
        Due.due("shy", x.minute(3), 4);
        Due.due("leaves", x.childOf(0, 1), 0);
        Due.due("stamps", x.childOf(0, 2), 4);
        Due.due("clock", x.status(2), 4);
        Due.refused(x, 0, 0, 0, 0, 0, 2, 0);
    }

    private static void quiet() {
        PaidInLeaves x = new PaidInLeaves();
        x.shop(0, 0, 4);
        x.minute(0);
        x.minute(0);
        Due.due("quiet", x.shopOf(0, 4), 2);
        x.child(1, 4);
        x.does(0, 10);
        Due.due("a cake without a minute", x.shopOf(0, 4), 0);
        x.minute(0);
        Due.due("the next minute", x.shopOf(0, 4), 1);
        x.ask(1, 0);
        for (int i = 0; i < 5; i++) {
            x.afternoon(240);
        }
        Due.due("999 at most", x.shopOf(0, 4), 999);
        Due.due("the clock goes on", x.status(2), 3 + 5 * 240);
    }

    private static void nights() {
        PaidInLeaves x = two();
        x.child(1, 0);
        x.tell(0, 1, 4);
        x.tell(0, 2, 7);
        x.does(0, 10);
        x.tell(0, 1, 8);
        x.does(0, 1);
        x.minute(0);
        x.minute(0);
        x.tell(0, 1, 8);
        x.tell(1, 1, 5);
        x.tell(2, 1, 1);
        int clock = x.status(2);
        int deals = x.status(6);
        Due.due("lost", x.night(), 4 + 3 + 1);
        Due.due("half of 8", x.childOf(0, 1), 4);
        Due.due("half of 5", x.childOf(1, 1), 2);
        Due.due("half of 1", x.childOf(2, 1), 0);
        Due.due("stamps are kept", x.childOf(0, 2), 7);
        Due.due("sold", x.shopOf(0, 3), 0);
        Due.due("quiet", x.shopOf(0, 4), 0);
        Due.due("tree", x.status(5), 999);
        Due.due("clock", x.status(2), clock);
        Due.due("deals", x.status(6), deals);
        x.ask(1, 9999);
        Due.due("lost again", x.night(), 2 + 1);
        Due.due("tree again", x.status(5), 999);
    }

    /** The draws of an afternoon, drawn here once more; what each means, by does() in an equal garden. */
    private static void draws() {
        PaidInLeaves x = drawGarden();
        PaidInLeaves y = drawGarden();
        int seed = 1;
        int deals = 0;
        for (int t = 0; t < 60; t++) {
            for (int c = 0; c < 3; c++) {
                seed = seed * 1103515245 + 12345;
                int draw = (seed >>> 16) % 4;
                int may = y.may(c);
                int deed = draw == 1 ? 1 : 2;
                if (draw == 0 || draw == 3) {
                    int asked = y.shopOf(0, 5);
                    boolean shy = draw == 3 && asked > 10 * y.childOf(c, 0);
                    deed = (may & 1 << 10) != 0 && !shy ? 10 : 1;
                }
                if ((may & 1 << deed) == 0) {
                    deed = 0;
                }
                deals += deed == 10 ? 1 : 0;
                Due.due("does", y.does(c, deed), 1);
            }
        }
        Due.due("afternoon(60)", x.afternoon(60), deals);
        Due.due("some deals", deals > 0 ? 1 : 0, 1);
        Due.due("seed", x.status(7), seed);
        Due.due("clock", x.status(2), 60);
        for (int c = 0; c < 3; c++) {
            for (int what = 0; what < 5; what++) {
                Due.due("child " + c + " " + what, x.childOf(c, what), y.childOf(c, what));
            }
        }
        Due.due("afternoon(0)", x.afternoon(0), -6);
        Due.due("afternoon(241)", x.afternoon(241), -6);
        Due.due("afternoon(-1)", x.afternoon(-1), -6);
        Due.due("seed stays", x.status(7), seed);
        Due.refused(x, 0, 0, 0, 0, 0, 3, 0);
    }

    private static PaidInLeaves drawGarden() {
        PaidInLeaves x = new PaidInLeaves();
        x.shop(1, 1, 12);
        x.child(2, 30);
        x.child(9, 0);
        x.child(40, 0);
        x.ask(1, 700);
        return x;
    }

    private static void seeds() {
        PaidInLeaves x = two();
        Due.due("first", x.seed(Integer.MIN_VALUE), 1);
        Due.due("second", x.seed(-7), Integer.MIN_VALUE);
        Due.due("status", x.status(7), -7);
        x.afternoon(1);
        int seed = (-7 * 1103515245 + 12345) * 1103515245 + 12345;
        Due.due("two draws", x.status(7), seed);
    }
}
