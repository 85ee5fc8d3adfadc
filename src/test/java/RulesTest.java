import java.util.ArrayList;
import java.util.List;

/** The edges of the document's RULES, sentence by sentence: promises 19 to 32, 36, 40 and 41. */
public final class RulesTest {
    private static final int NONE = -1;
    private static final int GREED = 0;
    private static final int SAVE = 1;
    private static final int STAMPS = 2;
    private static final int SHY = 3;

    public static void main(String[] args) {
        greedBuysWhereLeastIsAsked();
        greedPicksElseRests();
        savesBelowFifty();
        stampsAboveStamps();
        shyOfTenTimesNimble();
        behindNoneAndMost();
        dealsOfTheMinutes();
        runsAgainstTheBeginning();
        settlesTillTheLast();
        stopsTillTheLast();
        pickedRoundedUp();
        cheapestOfSeveral();
        moneyOfSeveral();
        inkedLeastAndMost();
        inkedOfSeveral();
        keepersOfAllWays();
        keepersOfSeveral();
        keepersInThirtyMinutes();
        boredOfSeveral();
        bankOfTheRichest();
        rotOfAll();
        trustWithinMinutes();
        heapBehindMinutes();
        told();
        draws();
        sixOfEach();
        whoIsGoneDoesNotCount();
        Due.end();
    }

    private static PaidInLeaves one(int kind, int a, int price, int nimble, int leaves) {
        PaidInLeaves x = new PaidInLeaves();
        x.shop(kind, a, price);
        x.child(nimble, leaves);
        return x;
    }

    private static void greedBuysWhereLeastIsAsked() {
        Due.words("BUYS in the SHOP that ASKS least of those in which one MAY (of several the first)");
        PaidInLeaves x = new PaidInLeaves();
        int[] prices = {9, 8, 8, 8, 7, 7};
        for (int price : prices) {
            x.shop(0, 0, price);
        }
        x.child(1, 50);
        int[] bought = {4, 5, 4, 5};
        // it keeps the one, then the other of the two that ask 7
        for (int i = 0; i < 4; i++) {
            int before = x.shopOf(bought[i], 3);
            x.keeps(0, bought[(i + 1) % 2]);
            x.minute(GREED);
            Due.due("bought in " + bought[i], x.shopOf(bought[i], 3), before + 1);
        }
        x.keeps(0, NONE);
        x.minute(GREED);
        Due.due("the first of two", x.shopOf(4, 3), 3);
        PaidInLeaves y = new PaidInLeaves();
        y.shop(4, 0, 1);
        y.shop(0, 0, 30);
        y.shop(0, 0, 31);
        y.child(1, 30);
        y.minute(GREED);
        Due.due("not where it may not", y.shopOf(1, 3), 1);
    }

    private static void greedPicksElseRests() {
        Due.words("else PICK, else REST");
        for (int rule : new int[] {GREED, SAVE, SHY}) {
            PaidInLeaves x = one(0, 0, 100, 7, 30);
            Due.due("picks by " + rule, x.behind(rule, 1, 0, 1), 37);
            x.ask(1, 1);
            Due.due("picks the last by " + rule, x.behind(rule, 1, 0, 1), 31);
            x.ask(1, 0);
            Due.due("rests by " + rule, x.behind(rule, 1, 0, 1), 30);
        }
    }

    private static void savesBelowFifty() {
        Due.words("1 SAVE: PICK, if LEAVES are below 50, else as GREED; by RULE 1 it is REST if PICK may not be");
        int[][] due = {{48, 55}, {49, 56}, {50, 45}, {51, 46}};
        for (int[] d : due) {
            PaidInLeaves x = one(0, 0, 5, 7, d[0]);
            x.tell(0, 2, 99);
            Due.due("with " + d[0], x.behind(SAVE, 1, 0, 1), d[1]);
            x.ask(1, 0);
            Due.due("with " + d[0] + " and no tree", x.behind(SAVE, 1, 0, 1), d[0] < 50 ? d[0] : d[1]);
            Due.due("cakes", x.behind(SAVE, 1, 0, 4), d[0] < 50 ? 0 : 1);
        }
    }

    private static void stampsAboveStamps() {
        Due.words("2 STAMPS: STAMP, if LEAVES are above STAMPS, else as GREED; by RULE 2 it is REST if STAMP may not be");
        // leaves and stamps, and what they are then
        int[][] due = {{9, 10, 4, 10}, {10, 10, 5, 10}, {11, 10, 6, 15}, {1, 0, 0, 1}, {4, 0, 0, 4}};
        for (int[] d : due) {
            PaidInLeaves x = one(0, 0, 5, 7, d[0]);
            x.tell(0, 2, d[1]);
            Due.due("leaves of " + d[0] + ", " + d[1], x.behind(STAMPS, 1, 0, 1), d[2]);
            Due.due("stamps of " + d[0] + ", " + d[1], x.behind(STAMPS, 1, 0, 2), d[3]);
            x.ask(0, 0);
            boolean above = d[0] > d[1];
            Due.due("leaves without ink", x.behind(STAMPS, 1, 0, 1), above ? d[0] : d[2]);
            Due.due("stamps without ink", x.behind(STAMPS, 1, 0, 2), above ? d[1] : d[3]);
            x.ask(0, 1);
            Due.due("stamps with ink 1", x.behind(STAMPS, 1, 0, 2), above ? d[1] + 1 : d[3]);
        }
        PaidInLeaves y = one(0, 0, 5, 7, 0);
        Due.due("none of both: picks", y.behind(STAMPS, 1, 0, 1), 7);
        y.ask(1, 0);
        Due.due("none of both: rests", y.behind(STAMPS, 1, 0, 1), 0);
    }

    private static void shyOfTenTimesNimble() {
        Due.words("3 SHY: as GREED, but nobody BUYS what ASKS more than 10 times NIMBLE");
        int[][] due = {{29, 971}, {30, 970}, {31, 1003}};
        for (int[] d : due) {
            PaidInLeaves x = one(0, 0, d[0], 3, 1000);
            Due.due("at " + d[0], x.behind(SHY, 1, 0, 1), d[1]);
        }
        Due.words("by RULE 3 the cheapest cake of those that ask at most that is bought");
        PaidInLeaves y = new PaidInLeaves();
        y.shop(0, 0, 31);
        y.shop(0, 0, 30);
        y.shop(0, 0, 29);
        y.shop(0, 0, 29);
        y.child(3, 1000);
        Due.due("the first of the cheapest", y.minute(SHY), 1);
        Due.due("sold", y.shopOf(2, 3), 1);
        y.keeps(0, 2);
        y.minute(SHY);
        Due.due("sold", y.shopOf(3, 3), 1);
        // 10 times 99 is below what a shop may ask: 999
        PaidInLeaves z = one(0, 0, 990, 99, 9999);
        Due.due("990", z.deals(SHY, 1, 0), 1);
        PaidInLeaves w = one(0, 0, 991, 99, 9999);
        Due.due("991", w.deals(SHY, 240, 0), 0);
    }

    private static void behindNoneAndMost() {
        Due.words("BEHIND n minutes (0 to 240) by a RULE: LEAVES, STAMPS, CAKES of a child; ASKS of a SHOP");
        for (int rule = 0; rule < 4; rule++) {
            PaidInLeaves x = one(5, 0, 242, 1, 3);
            x.tell(0, 2, 3);
            x.shop(5, 0, 241);
            x.keeps(0, 1);
            x.ask(1, 3);
            Due.due("leaves behind 0", x.behind(rule, 0, 0, 1), 3);
            Due.due("stamps behind 0", x.behind(rule, 0, 0, 2), 3);
            Due.due("cakes behind 0", x.behind(rule, 0, 0, 4), 0);
            Due.due("asks behind 0", x.asks(rule, 0, 0), 242);
            Due.due("asks behind 239", x.asks(rule, 239, 1), 2);
            Due.due("asks behind 240", x.asks(rule, 240, 1), 1);
            Due.due("behind -1", x.behind(rule, -1, 0, 1), -6);
            Due.due("behind 241", x.behind(rule, 241, 0, 1), -6);
            Due.due("asks behind 241", x.asks(rule, 241, 0), -6);
        }
        PaidInLeaves y = one(0, 0, 999, 1, 0);
        Due.due("239 leaves", y.behind(GREED, 239, 0, 1), 239);
        Due.due("240 leaves", y.behind(GREED, 240, 0, 1), 240);
        y.ask(1, 239);
        Due.due("of a tree with 239", y.behind(GREED, 240, 0, 1), 239);
        PaidInLeaves z = one(0, 0, 1, 1, 240);
        z.ask(1, 0);
        Due.due("240 cakes", z.behind(GREED, 240, 0, 4), 240);
        Due.due("and no leaves", z.behind(GREED, 240, 0, 1), 0);
    }

    private static void dealsOfTheMinutes() {
        Due.words("DEALS are those of the minutes told, TILL is all there is then");
        PaidInLeaves x = one(0, 0, 3, 1, 300);
        x.ask(1, 0);
        x.does(0, 10);
        x.does(0, 10);
        for (int rule = 0; rule < 4; rule++) {
            x.ask(0, 0);
            x.tell(0, 2, 9999);
            Due.due("deals in 0", x.deals(rule, 0, 0), 0);
            Due.due("till in 0", x.deals(rule, 0, 1), 6);
            Due.due("deals in 1", x.deals(rule, 1, 0), 1);
            Due.due("till in 1", x.deals(rule, 1, 1), 9);
        }
        Due.due("deals in 240", x.deals(GREED, 240, 0), 240);
        Due.due("till in 240", x.deals(GREED, 240, 1), 726);
        Due.due("deals of an afternoon", x.told(laid(x, 10, 10, 0), 3, 0), 2);
        Due.due("till of an afternoon", x.told(0, 3, 1), 12);
        Due.due("cakes of an afternoon", x.told(0, 3, 10), 4);
        Due.due("deals in all", x.status(6), 2);
        x.seed(1);
        int all = x.status(6) + x.afternoon(20);
        Due.due("deals of 20 minutes by draws", x.status(6), all);
        Due.due("more than before", all > 2 ? 1 : 0, 1);
    }

    private static int laid(PaidInLeaves x, int... deeds) {
        Due.lay(x, 0, deeds);
        return 0;
    }

    private static void runsAgainstTheBeginning() {
        Due.words("RUNS: ASKS of a SHOP at the end against the beginning: 1 more, -1 less, 0 alike");
        PaidInLeaves x = one(1, 5, 3, 1, 11);
        x.shop(5, 0, 3);
        x.shop(5, 0, 1);
        x.ask(1, 0);
        x.does(0, 10);
        // DEAR asks 8 now, the one LAZY 3, 2, 1, 1, the other 1 always
        x.tell(0, 1, 0);
        Due.due("against what it asks, not PRICE", x.runs(GREED, 1, 0), 0);
        Due.due("less", x.runs(GREED, 1, 1), -1);
        Due.due("1 at least", x.runs(GREED, 240, 2), 0);
        Due.due("in no minutes", x.runs(GREED, 0, 1), 0);
        PaidInLeaves y = one(1, 5, 3, 1, 3);
        y.ask(1, 0);
        Due.due("more", y.runs(GREED, 1, 0), 1);
        Due.due("more in 240", y.runs(GREED, 240, 0), 1);
        Due.due("in no minutes", y.runs(GREED, 0, 0), 0);
        // sold by and by, and as quiet again as at the beginning
        PaidInLeaves z = one(5, 0, 9, 1, 7);
        z.ask(1, 0);
        z.minute(GREED);
        Due.due("8 now, 7 and sold, 9, 8", z.runs(GREED, 3, 0), 0);
        Due.due("8 now, 7 and sold, 9", z.runs(GREED, 2, 0), 1);
    }

    private static void settlesTillTheLast() {
        Due.words("SETTLES: behind how few minutes (0 to 240) each SHOP ASKS the same on and on, till 240");
        int[][] due = {{1, 0}, {2, 1}, {239, 238}, {240, 239}, {241, 240}, {242, 240}, {999, 240}};
        for (int[] d : due) {
            PaidInLeaves x = new PaidInLeaves();
            x.shop(5, 0, d[0]);
            Due.due("LAZY at " + d[0], x.settles(GREED, 0), d[1]);
            x.shop(0, 0, 5);
            x.shop(5, 0, 100);
            Due.due("with another at 100", x.settles(GREED, 0), Math.max(99, d[1]));
        }
        PaidInLeaves y = new PaidInLeaves();
        Due.due("no shops", y.settles(GREED, 0), 0);
        PaidInLeaves z = one(5, 0, 2, 1, 0);
        z.shop(4, 0, 1);
        z.ask(1, 0);
        Due.due("settled at once", z.settles(GREED, 0), 1);
        z.tell(0, 1, 3);
        // asks 2, 2 (sold), 1, 2 (sold), 1: alike for a while is not on and on
        Due.due("settled behind the last cake", z.settles(GREED, 0), 4);
    }

    private static void stopsTillTheLast() {
        Due.words("STOPS: the first minute (0 on, to 239) from which on nobody BUYS till 240; NONE: somebody does in the last");
        int[][] due = {{0, 0}, {1, 1}, {238, 238}, {239, 239}, {240, NONE}, {241, NONE}};
        for (int[] d : due) {
            PaidInLeaves x = one(0, 0, 1, 1, d[0]);
            x.ask(1, 0);
            for (int rule : new int[] {GREED, SHY}) {
                Due.due(d[0] + " cakes by " + rule, x.settles(rule, 1), d[1]);
            }
        }
        PaidInLeaves y = one(0, 0, 240, 1, 0);
        y.ask(1, 9999);
        // picks 240 leaves in minutes 0 to 239
        Due.due("none could be bought", y.settles(GREED, 1), 0);
        PaidInLeaves z = one(0, 0, 239, 1, 0);
        z.ask(1, 9999);
        Due.due("bought in the last", z.settles(GREED, 1), NONE);
        PaidInLeaves w = one(0, 0, 238, 1, 0);
        w.ask(1, 9999);
        Due.due("bought in the last but one", w.settles(GREED, 1), 239);
    }

    private static void pickedRoundedUp() {
        Due.words("PICKED: the minutes a child would have to PICK for a cake of a SHOP as it ASKS now (rounded up; LEAVES aside)");
        int[][] due = {{1, 1, 1}, {1, 99, 1}, {98, 99, 1}, {99, 99, 1}, {100, 99, 2}, {999, 1, 999}, {999, 2, 500}, {998, 2, 499}};
        for (int[] d : due) {
            PaidInLeaves x = one(0, 0, d[0], d[1], 9999);
            x.ask(1, 0);
            Due.due(d[0] + " by " + d[1], x.picked(0, 0), d[2]);
        }
        PaidInLeaves y = one(3, 9, 999, 1, 0);
        y.child(99, 0);
        for (int i = 0; i < 33; i++) {
            y.tell(0, 1, 9999);
            y.does(0, 10);
        }
        Due.due("9999 by 1", y.picked(0, 0), 9999);
        Due.due("9999 by 99", y.picked(1, 0), 101);
        y.night();
        Due.due("999 by 99", y.picked(1, 0), 11);
    }

    private static void cheapestOfSeveral() {
        Due.words("CHEAPEST: the SHOP that ASKS least, of several the first");
        PaidInLeaves x = new PaidInLeaves();
        Due.due("none", x.cheapest(), -5);
        int[] prices = {5, 5, 4, 4, 3, 1};
        int[] due = {0, 0, 2, 2, 4, 5};
        for (int i = 0; i < 6; i++) {
            x.shop(4, 0, prices[i]);
            Due.due("of " + (i + 1), x.cheapest(), due[i]);
        }
        PaidInLeaves y = new PaidInLeaves();
        y.shop(0, 0, 2);
        y.shop(5, 0, 3);
        y.minute(0);
        Due.due("2 and 2", y.cheapest(), 0);
        y.minute(0);
        Due.due("2 and 1", y.cheapest(), 1);
    }

    private static void moneyOfSeveral() {
        Due.words("MONEY: DEALS by RULE 0, by RULE 2, and as many as FEATHERS there are: most, of several the first");
        // a cake for leaves in minute 1; by RULE 2 the leaf is stamped first and the cake bought in minute 2
        PaidInLeaves x = one(0, 0, 1, 1, 1);
        x.ask(1, 0);
        Due.due("0, 0, 0", x.money(0), 0);
        Due.due("1, 0, 0", x.money(1), 0);
        Due.due("1, 1, 0", x.money(2), 0);
        x.tell(0, 3, 1);
        Due.due("0, 0, 1", x.money(0), 2);
        Due.due("1, 0, 1", x.money(1), 0);
        Due.due("1, 1, 1", x.money(240), 0);
        x.child(1, 0);
        x.tell(1, 3, 1);
        Due.due("1, 1, 2", x.money(240), 2);
        PaidInLeaves y = one(4, 0, 1, 1, 1);
        y.ask(1, 0);
        y.tell(0, 3, 1);
        Due.due("0, 1, 1", y.money(2), 1);
        y.tell(0, 3, 2);
        Due.due("0, 1, 2", y.money(2), 2);
        y.tell(0, 3, 0);
        Due.due("0, 1, 0", y.money(2), 1);
        Due.words("MONEY looks at 0 to 240 minutes");
        Due.due("-1", y.money(-1), -6);
        Due.due("241", y.money(241), -6);
        // what was sold before counts for none of them
        PaidInLeaves z = one(0, 0, 1, 1, 3);
        z.ask(1, 0);
        z.does(0, 10);
        z.does(0, 10);
        z.tell(0, 3, 2);
        Due.due("1, 1, 2 and two of before", z.money(9), 2);
    }

    private static void inkedLeastAndMost() {
        Due.words("INKED: the INK (0 to 20) by which RULE 2 brings most DEALS in n minutes (0 to 60)");
        int[][] due = {{1, 1}, {19, 19}, {20, 20}, {21, 0}};
        for (int[] d : due) {
            // all must be stamped in the first minute, to be paid in the second
            PaidInLeaves x = one(4, 0, d[0], 1, d[0]);
            x.ask(1, 0);
            Due.due("price " + d[0] + " in 2", x.inked(2), d[1]);
            Due.due("price " + d[0] + " in 1", x.inked(1), 0);
            Due.due("price " + d[0] + " in 0", x.inked(0), 0);
            Due.due("ink stays", x.status(4), 5);
        }
        PaidInLeaves y = one(4, 0, 59, 1, 118);
        y.ask(1, 0);
        // by INK 1 59 leaves are stamped in 59 minutes, and the one cake is bought in the next: no INK brings two
        Due.due("in 60", y.inked(60), 1);
        Due.due("in 59", y.inked(59), 2);
        Due.due("in -1", y.inked(-1), -6);
        Due.due("in 61", y.inked(61), -6);
        PaidInLeaves z = one(0, 0, 1, 1, 0);
        z.tell(0, 2, 61);
        z.ask(1, 0);
        z.ask(0, 99);
        // leaves are never above stamps: any ink will do
        Due.due("any", z.inked(60), 0);
    }

    private static void inkedOfSeveral() {
        Due.words("INKED: most DEALS, of several the least");
        PaidInLeaves x = one(4, 0, 6, 1, 12);
        x.ask(1, 0);
        int[] most = {0, 0, 0};
        for (int n = 2; n < 5; n++) {
            int best = 0;
            for (int ink = 0; ink <= 20; ink++) {
                PaidInLeaves y = one(4, 0, 6, 1, 12);
                y.ask(1, 0);
                y.ask(0, ink);
                int deals = y.deals(STAMPS, n, 0);
                if (deals > most[n - 2]) {
                    most[n - 2] = deals;
                    best = ink;
                }
            }
            Due.due("in " + n, x.inked(n), best);
        }
        Due.due("one cake in 2", most[0], 1);
        Due.due("two cakes in 3", most[1], 2);
        // 6 leaves and 6 stamps, then the rest is not above: 6 is the least for one cake, 12 for two
        Due.due("in 2", x.inked(2), 6);
        Due.due("in 3", x.inked(3), 12);
        x.tell(0, 2, 18);
        for (int i = 0; i < 3; i++) {
            x.does(0, 10);
        }
        Due.due("in 2 behind three cakes", x.inked(2), 6);
        Due.due("in 3 behind three cakes", x.inked(3), 12);
    }

    /** Five shops and children, in which each way of keeping brings other deals. */
    private static PaidInLeaves market(int which, int shops, int children) {
        PaidInLeaves x = new PaidInLeaves();
        for (int i = 0; i < shops; i++) {
            x.shop((i + which) % 7, (i * which + 2) % 10, 3 + (i * 7 + which * 5) % 23);
        }
        for (int i = 0; i < children; i++) {
            x.child(1 + (i * 5 + which) % 9, (i * 31 + which * 17) % 60);
            x.tell(i, 2, (i * 13 + which * 29) % 40);
        }
        x.ask(1, 50 * which);
        if (children > 1 && shops > 1) {
            x.keeps(children - 1, shops - 1);
            x.keeps(0, 0);
        }
        x.minute(GREED);
        x.minute(GREED);
        return x;
    }

    private static void keepersOfAllWays() {
        Due.words("KEEPERS: of all ways to give the first k SHOPS (1 to 4) each a child of its own (all others keep none) that by which RULE 0 brings most DEALS in 30 minutes, of several the first by rows of numbers");
        int notFirst = 0;
        for (int which = 0; which < 9; which++) {
            int children = 4 + which % 3;
            for (int k = 1; k <= (which < 3 ? 4 : 3); k++) {
                List<int[]> ways = new ArrayList<>();
                waysFrom(ways, new int[k], 0, children);
                int most = NONE;
                int[] best = null;
                for (int[] way : ways) {
                    PaidInLeaves x = market(which, 5, children);
                    for (int c = 0; c < children; c++) {
                        x.keeps(c, NONE);
                    }
                    for (int i = 0; i < k; i++) {
                        x.keeps(way[i], i);
                    }
                    int deals = x.deals(GREED, 30, 0);
                    if (deals > most) {
                        most = deals;
                        best = way;
                    }
                }
                PaidInLeaves x = market(which, 5, children);
                Due.due("most of market " + which + " for " + k, x.keepers(k, NONE), most);
                for (int i = 0; i < k; i++) {
                    Due.due("keeper " + i + " of market " + which + " for " + k, x.keepers(k, i), best[i]);
                    notFirst += best[i] == i ? 0 : 1;
                }
                Due.due("KEEPS stay", x.childOf(children - 1, 5), 5);
                Due.due("KEEPS stay", x.childOf(0, 5), 1);
            }
        }
        Due.due("some are not the first way", notFirst > 20 ? 1 : 0, 1);
    }

    private static void waysFrom(List<int[]> ways, int[] way, int place, int children) {
        if (place == way.length) {
            ways.add(way.clone());
            return;
        }
        for (int c = 0; c < children; c++) {
            boolean free = true;
            for (int i = 0; i < place; i++) {
                free &= way[i] != c;
            }
            if (free) {
                way[place] = c;
                waysFrom(ways, way, place + 1, children);
            }
        }
    }

    private static void keepersOfSeveral() {
        Due.words("KEEPERS: of several the first by rows of numbers: how many; who keeps the i-th (there are k children at least)");
        for (int k = 1; k <= 4; k++) {
            for (int more = 0; more < 3; more += 2) {
                PaidInLeaves x = new PaidInLeaves();
                for (int i = 0; i < k + more; i++) {
                    x.shop(0, 0, 999);
                    x.child(1, 0);
                }
                Due.due("no deals of " + k, x.keepers(k, NONE), 0);
                for (int i = 0; i < k; i++) {
                    Due.due("all alike of " + k, x.keepers(k, i), i);
                }
                Due.due("no such i of " + k, x.keepers(k, k), -5);
                Due.due("one more than there are", x.keepers(k + more + 1, 0), -6);
            }
        }
        // child 1 alone can pay, and not in a shop of its own: the ways 0 2, 1 0, 1 2, 2 0 are alike
        PaidInLeaves y = new PaidInLeaves();
        y.shop(0, 0, 500);
        y.shop(0, 0, 1);
        for (int c = 0; c < 3; c++) {
            y.child(1, c == 1 ? 40 : 0);
        }
        y.ask(1, 0);
        Due.due("30 minutes of child 1", y.keepers(2, NONE), 30);
        Due.due("shop 0", y.keepers(2, 0), 0);
        Due.due("shop 1", y.keepers(2, 1), 2);
        Due.due("shop 0 alone", y.keepers(1, 0), 0);
    }

    private static void keepersInThirtyMinutes() {
        Due.words("KEEPERS: most DEALS in 30 minutes");
        for (int leaves = 29; leaves <= 32; leaves++) {
            PaidInLeaves x = new PaidInLeaves();
            x.shop(0, 0, 999);
            x.shop(0, 0, 1);
            x.child(1, leaves + 2);
            x.ask(1, 0);
            x.does(0, 11);
            x.does(0, 11);
            Due.due("by " + leaves + " leaves", x.keepers(1, NONE), Math.min(30, leaves));
        }
    }

    private static void boredOfSeveral() {
        Due.words("BORED: the child with the fewest CAKES behind n minutes by a RULE, of several the first");
        PaidInLeaves x = new PaidInLeaves();
        x.shop(0, 0, 1);
        int[] leaves = {3, 2, 2, 1, 240, 0};
        int[] soon = {0, 1, 1, 3, 3, 5};
        for (int c = 0; c < 6; c++) {
            x.child(1, leaves[c]);
            x.ask(1, 0);
            Due.due("in 240 of " + (c + 1), x.bored(GREED, 240), soon[c]);
            Due.due("in 0 of " + (c + 1), x.bored(GREED, 0), 0);
        }
        Due.due("in 1", x.bored(GREED, 1), 5);
        for (int c = 0; c < 3; c++) {
            x.does(c, 10);
        }
        Due.due("in 0 with cakes of before", x.bored(GREED, 0), 3);
    }

    private static void bankOfTheRichest() {
        Due.words("BANK: what a robber who comes behind n minutes by RULE 0 and takes all LEAVES of the child that has most (of several the first) would get");
        PaidInLeaves x = new PaidInLeaves();
        Due.due("nobody's", x.bank(0), 0);
        x.child(1, 5);
        x.child(3, 5);
        x.child(2, 0);
        x.tell(2, 2, 9999);
        x.ask(1, 9999);
        Due.due("in 0", x.bank(0), 5);
        Due.due("in 1", x.bank(1), 8);
        Due.due("in 240", x.bank(240), 725);
        Due.due("in 241", x.bank(241), -6);
        Due.due("in -1", x.bank(-1), -6);
        Due.due("nothing is taken", x.childOf(1, 1), 5);
        x.tell(0, 1, 9999);
        Due.due("9999 at most", x.bank(240), 9999);
    }

    private static void rotOfAll() {
        Due.words("ROT: how many LEAVES a NIGHT would cost all, behind n minutes by a RULE");
        PaidInLeaves x = new PaidInLeaves();
        Due.due("nobody's", x.rot(GREED, 240), 0);
        x.child(1, 0);
        x.child(2, 1);
        x.child(3, 2);
        Due.due("in 0", x.rot(GREED, 0), 0 + 1 + 1);
        Due.due("in 1", x.rot(GREED, 1), 1 + 2 + 3);
        x.ask(1, 9999);
        Due.due("in 240", x.rot(SHY, 240), 120 + 241 + 361);
        Due.due("no night yet", x.childOf(2, 1), 2);
        Due.due("the tree", x.status(5), 9999);
        for (int c = 0; c < 3; c++) {
            x.tell(c, 1, 9999);
        }
        Due.due("of 9999", x.rot(GREED, 240), 15000);
    }

    private static void trustWithinMinutes() {
        Due.words("TRUST: within how many minutes (0 to 240) of PICKING alone it could pay (LEAVES it has count; TREE); NONE");
        int[][] due = {{239, 239}, {240, 240}, {241, NONE}};
        for (int[] d : due) {
            PaidInLeaves x = one(0, 0, d[0], 1, 0);
            Due.due(d[0] + " by picking", x.trust(0, 0), d[1]);
            x.tell(0, 1, d[0]);
            Due.due(d[0] + " at once", x.trust(0, 0), 0);
            x.tell(0, 1, d[0] - 1);
            Due.due("one more", x.trust(0, 0), 1);
            x.ask(1, 0);
            Due.due("none on the tree", x.trust(0, 0), NONE);
            x.ask(1, 1);
            Due.due("one on the tree", x.trust(0, 0), 1);
        }
        Due.words("TRUST compares LEAVES alone with what is asked, of STAMPED cakes too");
        PaidInLeaves y = one(4, 0, 12, 5, 0);
        y.tell(0, 2, 9999);
        y.keeps(0, 0);
        Due.due("STAMPED", y.trust(0, 0), 3);
        y.child(99, 0);
        y.ask(1, 15);
        Due.due("alone", y.trust(0, 0), 3);
        Due.due("the tree stays", y.status(5), 15);
        Due.words("TRUST: what it ASKS now");
        PaidInLeaves z = one(5, 0, 20, 5, 0);
        z.ask(1, 0);
        z.minute(GREED);
        z.ask(1, 9999);
        Due.due("19 now", z.trust(0, 0), 4);
        z.tell(0, 1, 4);
        Due.due("15 to pick", z.trust(0, 0), 3);
    }

    private static void heapBehindMinutes() {
        Due.words("HEAP: by a RULE behind how few minutes (0 to 240) TILL is v at least; NONE");
        PaidInLeaves x = one(0, 0, 1, 1, 9999);
        int[][] due = {{0, 0}, {1, 1}, {239, 239}, {240, 240}, {241, NONE}, {Integer.MAX_VALUE, NONE}, {-1, -16}};
        for (int[] d : due) {
            Due.due("heap of " + d[0], x.heap(GREED, d[0]), d[1]);
        }
        PaidInLeaves y = one(0, 0, 7, 1, 9999);
        for (int v = 1; v <= 22; v++) {
            Due.due("heap of " + v + " at 7", y.heap(SHY, v), (v + 6) / 7);
        }
        y.does(0, 10);
        Due.due("7 are there", y.heap(STAMPS, 7), 0);
        Due.due("8 are not", y.heap(GREED, 8), 1);
    }

    private static void told() {
        Due.words("WRONG: the first that MAY not be then; NONE");
        PaidInLeaves x = one(0, 0, 2, 1, 320);
        x.ask(1, 0);
        x.row(0, 1, 160);
        x.set(0, 0, 10);
        for (int n = 1; n < 160; n *= 2) {
            x.copy(0, 0, 0, n, Math.min(n, 160 - n));
        }
        Due.due("160 cakes", x.judge(0, 160), NONE);
        Due.due("160 deals", x.told(0, 160, 0), 160);
        x.tell(0, 1, 319);
        Due.due("the last may not be", x.judge(0, 160), 159);
        Due.due("159 may", x.judge(0, 159), NONE);
        Due.due("told of it", x.told(0, 160, 0), -6);
        Due.due("done of it", x.done(0, 160), -6);
        x.tell(0, 1, 0);
        Due.due("the first may not be", x.judge(0, 160), 0);
        Due.due("none of it", x.judge(0, 0), NONE);
        x.tell(0, 1, 320);
        Due.due("done", x.done(0, 160), 160);
        Due.due("cakes", x.childOf(0, 4), 160);
        for (int c = 1; c < 6; c++) {
            x.child(1, 400);
        }
        x.tell(0, 1, 400);
        // six children: 26 minutes, and four elements behind them
        Due.due("deals of six", x.told(0, 160, 0), 156);
        Due.due("cakes of the last", x.told(0, 160, 15), 26);
        Due.due("cakes of the first", x.told(0, 160, 10), 186);
        Due.due("no seventh", x.told(0, 160, 16), -5);
        Due.due("done", x.done(0, 160), 186);
    }

    private static void draws() {
        Due.words("A DRAW below n: SEED becomes SEED times 1103515245, and 12345 (an int, wrapping); its upper 16 bits, no sign, modulo n");
        int[] seeds = {1, 0, -1, Integer.MAX_VALUE, Integer.MIN_VALUE, 12345, -1103515245};
        for (int seed : seeds) {
            PaidInLeaves x = one(0, 0, 11, 1, 11);
            x.seed(seed);
            x.afternoon(1);
            long next = (seed * 1103515245L + 12345L) & 0xffffffffL;
            Due.due("the seed behind " + seed, x.status(7), (int) next);
            drawn(x, seed, next);
        }
        int[] each = {0, 0, 0, 0};
        for (int seed = 2; seed < 200; seed++) {
            long next = (seed * 1103515245L + 12345L) & 0xffffffffL;
            if ((next & 0x80000000L) != 0) {
                PaidInLeaves x = one(0, 0, 11, 1, 11);
                x.seed(seed);
                x.afternoon(1);
                each[drawn(x, seed, next)]++;
            }
        }
        for (int draw = 0; draw < 4; draw++) {
            Due.due("draws with the highest bit", each[draw] > 0 ? 1 : 0, 1);
        }
    }

    /** Whether the child did what it must by the draw: RULE 0 buys, RULE 3 picks. */
    private static int drawn(PaidInLeaves x, int seed, long next) {
        int draw = (int) (next >> 16) % 4;
        int[] leaves = {0, 12, 6, 12};
        int[] stamps = {0, 0, 5, 0};
        Due.due("leaves by seed " + seed, x.childOf(0, 1), leaves[draw]);
        Due.due("stamps by seed " + seed, x.childOf(0, 2), stamps[draw]);
        return draw;
    }

    private static PaidInLeaves six() {
        PaidInLeaves x = new PaidInLeaves();
        for (int i = 0; i < 6; i++) {
            x.shop(0, 0, 500);
            x.child(1, i);
            x.tell(i, 3, 1);
        }
        x.ask(1, 0);
        return x;
    }

    /** Of six the sixth counts like the others, and there is none behind it. */
    private static void sixOfEach() {
        Due.words("SHOPS, CHILDREN: 6 at most");
        PaidInLeaves x = six();
        Due.due("bank: the sixth", x.bank(240), 5);
        Due.due("rot", x.rot(GREED, 240), 1 + 1 + 2 + 2 + 3);
        Due.due("bored", x.bored(GREED, 240), 0);
        Due.due("settles", x.settles(GREED, 0), 0);
        Due.due("stops", x.settles(STAMPS, 1), 0);
        Due.due("heap", x.heap(SAVE, 1), NONE);
        Due.due("trust", x.trust(5, 5), NONE);
        Due.due("picked", x.picked(5, 5), 500);
        Due.due("cheapest", x.cheapest(), 0);
        Due.due("inked", x.inked(60), 0);
        Due.due("keepers", x.keepers(4, 3), 3);
        Due.due("most deals", x.keepers(4, NONE), 0);
        Due.due("may", x.may(5), 1 | 4 | 8);
        Due.due("feathers", x.money(240), 2);
        PaidInLeaves y = new PaidInLeaves();
        for (int i = 0; i < 6; i++) {
            y.shop(0, 0, i == 5 ? 1 : 900);
            y.child(1, i == 5 ? 6 : 0);
            y.tell(i, 3, 1);
        }
        y.ask(1, 0);
        Due.due("six cakes of the sixth, six feathers", y.money(6), 0);
        y.tell(5, 3, 2);
        Due.due("seven feathers", y.money(6), 2);
        Due.due("cheapest: the sixth", y.cheapest(), 5);
        Due.due("cakes of the sixth", y.behind(GREED, 240, 5, 4), 6);
        Due.due("stops behind the sixth's cakes", y.settles(GREED, 1), 6);
        Due.due("may: in the sixth", y.may(5), 1 | 4 | 8 | 1 << 15);
        Due.due("keepers: four of six", y.keepers(4, NONE), 6);
        PaidInLeaves z = new PaidInLeaves();
        for (int i = 0; i < 6; i++) {
            z.shop(5, 0, i == 5 ? 200 : 10 + i);
        }
        Due.due("settles by the sixth", z.settles(GREED, 0), 199);
        Due.due("runs: the sixth", z.runs(GREED, 240, 5), -1);
    }

    private static void whoIsGoneDoesNotCount() {
        Due.words("All is as THE IMAGE has it");
        PaidInLeaves x = new PaidInLeaves();
        x.shop(4, 0, 7);
        x.child(1, 3);
        x.tell(0, 3, 0);
        x.image();
        x.child(9, 9999);
        x.tell(1, 3, 99);
        x.tell(1, 2, 9999);
        x.keeps(1, 0);
        x.shop(5, 0, 1);
        x.bank(240);
        x.restore();
        x.ask(1, 0);
        Due.due("its feathers", x.money(0), 0);
        Due.due("its leaves", x.bank(0), 3);
        Due.due("what it would lose", x.rot(GREED, 0), 2);
        Due.due("its cakes", x.deals(GREED, 240, 0), 0);
        Due.due("the shop that is gone", x.cheapest(), 0);
        Due.due("its prices", x.settles(GREED, 0), 0);
        Due.due("its till", x.heap(GREED, 1), NONE);
        x.tell(0, 2, 7);
        x.row(0, 0, 2);
        x.set(0, 0, 10);
        Due.due("an afternoon of one child", x.done(0, 2), 2);
        Due.due("nobody keeps the shop", x.status(3), 7);
    }
}
