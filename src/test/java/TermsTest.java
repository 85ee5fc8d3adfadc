/**
 * The edges of the document's Terms, THE GARDEN, DEEDS and Details, sentence by sentence: each sentence that
 * names an edge has its own test, and Due.words() holds the sentence.
 */
public final class TermsTest {
    private static final int NONE = -1;
    private static final int PICK = 1;
    private static final int STAMP = 2;
    private static final int GIVE = 3;
    private static final int FINE = 6;

    public static void main(String[] args) {
        shopsAreSix();
        kindsUnderKinds();
        numbersOfShops();
        childrenAreSix();
        numbersOfChildren();
        numbersAtFirst();
        leastAndMostOfTexts();
        digitsOfTexts();
        blanksOfTexts();
        longestText();
        roomOfTexts();
        textsOverWhatThereIs();
        asksOneAtLeast();
        asksLimitOfDear();
        asksLimitOfGreedy();
        asksLimitOfFine();
        picksFromTree();
        stampsOfLeaves();
        gives();
        buysForAll();
        stampedTakeNoLeaves();
        keeperIsThere();
        keeperIsFull();
        aboveIsLost();
        whatMayNotBeIsARest();
        quietIsLimited();
        quietWithoutMinute();
        nights();
        nightLeavesTheRest();
        toldWithoutWholeMinute();
        toldMinutesAreMinutes();
        Due.end();
    }

    private static PaidInLeaves one(int kind, int a, int price, int nimble, int leaves) {
        PaidInLeaves x = new PaidInLeaves();
        x.shop(kind, a, price);
        x.child(nimble, leaves);
        return x;
    }

    // ---- THE GARDEN

    private static void shopsAreSix() {
        Due.words("SHOPS have numbers, from 0 on, 6 at most");
        PaidInLeaves x = new PaidInLeaves();
        for (int i = 0; i < 6; i++) {
            Due.due("shop " + i, x.shop(i, i, 1 + i), i);
            Due.due("shops", x.status(0), i + 1);
            Due.due("no next one", x.shopOf(i + 1, 0), -5);
        }
        Due.due("a seventh", x.shop(0, 0, 1), -7);
        for (int i = 0; i < 6; i++) {
            Due.due("kind of " + i, x.shopOf(i, 0), i);
            Due.due("price of " + i, x.shopOf(i, 2), 1 + i);
        }
    }

    private static void kindsUnderKinds() {
        Due.words("0 SHOP; 1 DEAR, 2 SLACK, 4 STAMPED, each under SHOP; 3 GREEDY, under DEAR; 5 LAZY, under SLACK; 6 FINE, under STAMPED");
        int[][] of = {{0}, {0, 1}, {0, 2}, {0, 1, 3}, {0, 4}, {0, 2, 5}, {0, 4, 6}};
        for (int kind = 0; kind < 7; kind++) {
            PaidInLeaves x = new PaidInLeaves();
            x.shop(kind, 0, 8);
            x.show(0, 0);
            for (int as = 0; as < 7; as++) {
                boolean is = false;
                for (int above : of[kind]) {
                    is |= above == as;
                }
                int says = as == 0 || as == 4 || as == 6 ? 8 : 0;
                Due.due("kind " + kind + " as " + as, x.says(0, as), is ? says : -2);
            }
        }
    }

    private static void numbersOfShops() {
        Due.words("a (0 to 9), PRICE (1 to 999), SOLD (0 at first), QUIET (minutes since one was SOLD; 0 at first)");
        PaidInLeaves x = new PaidInLeaves();
        Due.due("least", x.shop(0, 0, 1), 0);
        Due.due("most", x.shop(0, 9, 999), 1);
        Due.due("a -1", x.shop(0, -1, 1), -6);
        Due.due("a 10", x.shop(0, 10, 1), -6);
        Due.due("price 0", x.shop(0, 0, 0), -6);
        Due.due("price 1000", x.shop(0, 0, 1000), -6);
        for (int s = 0; s < 2; s++) {
            Due.due("a", x.shopOf(s, 1), 9 * s);
            Due.due("price", x.shopOf(s, 2), 1 + 998 * s);
            Due.due("sold", x.shopOf(s, 3), 0);
            Due.due("quiet", x.shopOf(s, 4), 0);
        }
    }

    private static void childrenAreSix() {
        Due.words("CHILDREN have numbers, from 0 on, 6 at most");
        PaidInLeaves x = new PaidInLeaves();
        for (int i = 0; i < 6; i++) {
            Due.due("child " + i, x.child(1 + i, i), i);
            Due.due("children", x.status(1), i + 1);
            Due.due("no next one", x.childOf(i + 1, 0), -5);
        }
        Due.due("a seventh", x.child(1, 0), -7);
        for (int i = 0; i < 6; i++) {
            Due.due("nimble of " + i, x.childOf(i, 0), 1 + i);
            Due.due("leaves of " + i, x.childOf(i, 1), i);
        }
    }

    private static void numbersOfChildren() {
        Due.words("LEAVES (0 to 9999), STAMPS (0 to 9999), FEATHERS (0 to 99), CAKES (0 at first), KEEPS (NONE at first), NIMBLE (1 to 99)");
        PaidInLeaves x = new PaidInLeaves();
        Due.due("least", x.child(1, 0), 0);
        Due.due("most", x.child(99, 9999), 1);
        Due.due("nimble 0", x.child(0, 0), -6);
        Due.due("nimble 100", x.child(100, 0), -6);
        Due.due("leaves -1", x.child(1, -1), -6);
        Due.due("leaves 10000", x.child(1, 10000), -6);
        for (int what = 2; what < 6; what++) {
            Due.due("at first " + what, x.childOf(1, what), 0);
        }
        x.shop(0, 0, 1);
        Due.due("keeps NONE at first", x.keeps(1, 0), NONE);
    }

    private static void numbersAtFirst() {
        Due.words("CLOCK (minutes; 0 at first), TILL (0 at first). INK (0 to 99; 5 at first). TREE (0 to 9999; 999 at first)");
        PaidInLeaves x = new PaidInLeaves();
        Due.due("clock", x.status(2), 0);
        Due.due("till", x.status(3), 0);
        Due.due("ink", x.ask(0, 99), 5);
        Due.due("ink", x.ask(0, 0), 99);
        Due.due("tree", x.ask(1, 9999), 999);
        Due.due("tree", x.ask(1, 0), 9999);
        Due.due("ink 100", x.ask(0, 100), -6);
        Due.due("tree 10000", x.ask(1, 10000), -6);
        Due.due("ink stays", x.status(4), 0);
        Due.due("tree stays", x.status(5), 0);
    }

    /** Each number of each item: its least and its most stand, one below (where it can be written) and one above don't. */
    private static void leastAndMostOfTexts() {
        Due.words("of a NUMBER that may not be the place of its first digit");
        String[][] edges = {
            {"shop ", " 0 1", "0", "6", "", "7"}, {"shop 0 ", " 1", "0", "9", "", "10"}, {"shop 0 0 ", "", "1", "999", "0", "1000"},
            {"child ", " 0", "1", "99", "0", "100"}, {"child 1 ", "", "0", "9999", "", ""},
            {"feathers ", " 1", "0", "1", "", "2"}, {"feathers 0 ", "", "0", "99", "", "100"},
            {"keeps ", " 0", "0", "1", "", "2"}, {"keeps 0 ", "", "0", "2", "", "3"},
            {"ink ", "", "0", "99", "", "100"}, {"tree ", "", "0", "9999", "", ""},
            {"do ", " 0", "0", "1", "", "2"}, {"do 0 ", "", "0", "12", "", "13"},
        };
        for (String[] e : edges) {
            PaidInLeaves x = new PaidInLeaves();
            for (int i = 0; i < 3; i++) {
                x.shop(0, 0, 1);
            }
            x.child(5, 100);
            x.child(5, 100);
            Due.reads(x, e[0] + e[2] + e[1], 1);
            PaidInLeaves y = new PaidInLeaves();
            for (int i = 0; i < 3; i++) {
                y.shop(0, 0, 1);
            }
            y.child(5, 100);
            y.child(5, 100);
            Due.reads(y, e[0] + e[3] + e[1], 1);
            for (int k = 4; k < 6; k++) {
                if (!e[k].isEmpty()) {
                    Due.faults(y, e[0] + e[k] + e[1], e[0].length());
                }
            }
        }
        textsStand();
    }

    private static void textsStand() {
        PaidInLeaves x = new PaidInLeaves();
        Due.reads(x, "shop 6 9 999;shop 0 0 1;child 99 9999;child 1 0;feathers 0 99;keeps 0 1;ink 0;tree 0", 8);
        int[][] shops = {{6, 9, 999, 0, 0, 999}, {0, 0, 1, 0, 0, 1}};
        int[][] children = {{99, 9999, 0, 99, 0, 2}, {1, 0, 0, 0, 0, 0}};
        for (int i = 0; i < 2; i++) {
            for (int what = 0; what < 6; what++) {
                Due.due("shop " + i + " " + what, x.shopOf(i, what), shops[i][what]);
                Due.due("child " + i + " " + what, x.childOf(i, what), children[i][what]);
            }
        }
        Due.due("ink", x.status(4), 0);
        Due.due("tree", x.status(5), 0);
        Due.reads(x, "feathers 0 0;ink 99;tree 9999", 3);
        Due.due("no feathers", x.childOf(0, 3), 0);
        Due.due("ink", x.status(4), 99);
        Due.due("tree", x.status(5), 9999);
    }

    private static void digitsOfTexts() {
        Due.words("NUMBERS (1 to 4 digits)");
        PaidInLeaves x = one(0, 0, 1, 5, 100);
        Due.reads(x, "ink 7", 1);
        Due.due("one digit", x.status(4), 7);
        Due.reads(x, "ink 0008", 1);
        Due.due("four digits", x.status(4), 8);
        Due.faults(x, "ink ", 4);
        Due.faults(x, "ink ;night", 4);
        Due.faults(x, "ink 00080", 8);
        Due.faults(x, "tree 99990", 9);
        Due.faults(x, "shop 00000 0 1", 9);
        Due.faults(x, "do 00000 0", 7);
        Due.faults(x, "feathers 0  1", 11);
        Due.faults(x, "ink +1", 4);
        // the signs beside the digits
        Due.faults(x, "ink /", 4);
        Due.faults(x, "ink :", 4);
        Due.faults(x, "ink 1/", 5);
        Due.faults(x, "ink 1:", 5);
        Due.due("ink stays", x.status(4), 8);
    }

    private static void blanksOfTexts() {
        Due.words("One blank between words and NUMBERS");
        PaidInLeaves x = one(0, 0, 1, 5, 100);
        String text = "shop 1 2 3;child 4 5;feathers 0 6;keeps 0 0;ink 7;tree 8;do 0 0;night";
        for (int i = 0; i < text.length(); i++) {
            if (text.charAt(i) == ' ') {
                PaidInLeaves y = one(0, 0, 1, 5, 100);
                Due.faults(y, text.substring(0, i) + " " + text.substring(i), i + 1);
                Due.faults(y, text.substring(0, i) + "_" + text.substring(i + 1), i);
            }
        }
        Due.faults(x, " night", 0);
        Due.faults(x, "night ", 5);
        Due.faults(x, "night ;night", 5);
        Due.faults(x, "night; night", 6);
        Due.reads(x, text, 8);
    }

    private static void longestText() {
        Due.words("ITEM, then any number of times ; and ITEM");
        StringBuilder inks = new StringBuilder("tree 10");
        StringBuilder nights = new StringBuilder("tree 0001;ink 03");
        for (int i = 0; i < 25; i++) {
            inks.append(";ink ").append(i % 10);
            nights.append(i == 0 ? "" : ";night");
        }
        Due.due("letters of the one", inks.length(), 157);
        Due.due("letters of the other", nights.length(), 160);
        PaidInLeaves x = new PaidInLeaves();
        Due.faults(x, inks + ";in", 160);
        Due.reads(x, inks + "0", 26);
        Due.due("the last ink", x.status(4), 40);
        PaidInLeaves y = new PaidInLeaves();
        Due.reads(y, nights.toString(), 26);
        Due.due("ink", y.status(4), 3);
        Due.due("tree of the morning", y.status(5), 999);
        Due.words("The FAULT: the number of elements, if it ends too early");
        Due.faults(y, "", 0);
        Due.faults(y, "n", 1);
        Due.faults(y, "night;", 6);
        Due.faults(y, "ink 5;shop 0 0", 14);
    }

    private static void roomOfTexts() {
        Due.words("what there is no room for can't stand: its word, once that is whole");
        StringBuilder shops = new StringBuilder("shop 0 0 1");
        StringBuilder children = new StringBuilder("child 1 1");
        for (int i = 1; i < 6; i++) {
            shops.append(";shop 0 0 1");
            children.append(";child 1 1");
        }
        String[] texts = {shops + ";shop 0 0 1", shops + ";shop", shops + ";sho", shops + ";shoe",
            children + ";child 1 1", children + ";child", children + ";chil", children + ";chill"};
        int[] faults = {66, 66, 69, 69, 60, 60, 64, 64};
        for (int i = 0; i < texts.length; i++) {
            PaidInLeaves y = new PaidInLeaves();
            Due.faults(y, texts[i], faults[i]);
            Due.due("no shops", y.status(0), 0);
            Due.due("no children", y.status(1), 0);
        }
        PaidInLeaves x = new PaidInLeaves();
        Due.reads(x, shops.toString(), 6);
        Due.reads(x, children.toString(), 6);
        Due.faults(x, "shop 7 0 1", 0);
        Due.faults(x, "child 0 1", 0);
        Due.due("six shops", x.status(0), 6);
        Due.due("six children", x.status(1), 6);
    }

    private static void textsOverWhatThereIs() {
        Due.words("All is told over what there is, or nothing");
        PaidInLeaves x = one(1, 2, 3, 4, 50);
        x.seed(9);
        x.minute(0);
        x.tell(0, 2, 8);
        Due.reads(x, "do 0 10;child 6 7;keeps 1 0;feathers 0 9;do 0 3;do 1 2", 6);
        int[] first = {4, 52, 8, 9 - 1, 2, 0};
        int[] second = {6, 2, 5, 0, 0, 1};
        for (int what = 0; what < 6; what++) {
            Due.due("the child that was there " + what, x.childOf(0, what), first[what]);
            Due.due("the new one " + what, x.childOf(1, what), second[what]);
        }
        int[] status = {1, 2, 1, 8, 5, 999, 2, 9};
        for (int what = 0; what < status.length; what++) {
            Due.due("status " + what, x.status(what), status[what]);
        }
        Due.faults(x, "shop 0 0 1;child 1 1;ink 1;tree 1;feathers 0 1;keeps 0 0;do 1 0;night;do 9 0", 73);
        for (int what = 0; what < status.length; what++) {
            Due.due("status " + what + " with a fault", x.status(what), status[what]);
        }
        Due.due("feathers with a fault", x.childOf(0, 3), 8);
        Due.due("sold with a fault", x.shopOf(0, 3), 2);
    }

    // ---- DEEDS

    private static void asksOneAtLeast() {
        Due.words("1 at least: SLACK PRICE less a times QUIET; LAZY PRICE less QUIET");
        PaidInLeaves x = new PaidInLeaves();
        x.shop(2, 3, 10);
        x.shop(5, 9, 10);
        x.shop(2, 0, 10);
        int[][] due = {{10, 10, 10}, {7, 9, 10}, {4, 8, 10}, {1, 7, 10}, {1, 6, 10}};
        for (int n = 0; n < due.length; n++) {
            for (int s = 0; s < 3; s++) {
                Due.due("shop " + s + " behind " + n, x.asks(0, n, s), due[n][s]);
            }
        }
        int[] lazy = {3, 2, 1, 1, 1};
        for (int n = 0; n < lazy.length; n++) {
            Due.due("LAZY behind " + (7 + n), x.asks(0, 7 + n, 1), lazy[n]);
        }
        for (int i = 0; i < 5; i++) {
            x.afternoon(240);
        }
        Due.due("SLACK behind 999 and more", x.shopOf(0, 5), 1);
        Due.due("LAZY behind 999 and more", x.shopOf(1, 5), 1);
        Due.due("a 0", x.shopOf(2, 5), 10);
    }

    /** Two children keep a shop each and buy in the other's: so their money comes round, 80 cakes a shop and call. */
    private static PaidInLeaves round(int kind) {
        PaidInLeaves x = new PaidInLeaves();
        for (int i = 0; i < 2; i++) {
            x.shop(kind, 9, 999);
            x.child(1, 9999);
            x.tell(i, 2, 9999);
            x.keeps(i, i);
        }
        x.row(0, 0, 160);
        x.set(0, 0, 11);
        x.set(0, 1, 10);
        for (int n = 2; n < 160; n *= 2) {
            x.copy(0, 0, 0, n, Math.min(n, 160 - n));
        }
        for (int i = 0; i < 12; i++) {
            Due.due("80 minutes", x.done(0, 160), 80 * (i + 1));
        }
        // SOLD 960 in each; 40 more make 1000: 999 and 9000
        Due.due("40 minutes", x.done(0, 80), 1000);
        return x;
    }

    private static void asksLimitOfDear() {
        Due.words("9999 at most: DEAR PRICE and a times SOLD");
        limitOfRound(round(1));
    }

    private static void asksLimitOfFine() {
        Due.words("9999 at most: FINE PRICE and a times SOLD");
        limitOfRound(round(FINE));
    }

    private static void limitOfRound(PaidInLeaves x) {
        Due.due("SOLD", x.shopOf(0, 3), 1000);
        Due.due("9999", x.shopOf(0, 5), 9999);
        x.tell(0, 1, 9999);
        x.tell(0, 2, 9999);
        Due.due("one more", x.does(0, 11), 1);
        Due.due("SOLD", x.shopOf(1, 3), 1001);
        Due.due("9999 still", x.shopOf(1, 5), 9999);
        Due.due("DEALS in all", x.status(6), 2001);
    }

    private static void asksLimitOfGreedy() {
        Due.words("9999 at most: GREEDY PRICE and a times the square of SOLD");
        PaidInLeaves x = one(3, 9, 999, 1, 0);
        int[] asks = {999, 1008, 1035, 1080};
        for (int sold = 0; sold <= 33; sold++) {
            Due.due("SOLD " + sold, x.shopOf(0, 5), sold < asks.length ? asks[sold] : Math.min(9999, 999 + 9 * sold * sold));
            x.tell(0, 1, 9999);
            x.does(0, 10);
        }
        PaidInLeaves y = one(3, 1, 39, 1, 0);
        for (int sold = 0; sold < 100; sold++) {
            y.tell(0, 1, 9999);
            y.does(0, 10);
        }
        // 39 and 100 * 100
        Due.due("SOLD 100", y.shopOf(0, 5), 9999);
        Due.due("SOLD", y.shopOf(0, 3), 100);
    }

    private static void picksFromTree() {
        Due.words("1 PICK: as many leaves as NIMBLE, or as TREE has: LEAVES more");
        int[][] due = {{1, 1, 0}, {6, 6, 0}, {7, 7, 0}, {8, 7, 1}, {9999, 7, 9992}};
        for (int[] d : due) {
            PaidInLeaves x = one(0, 0, 1, 7, 20);
            x.ask(1, d[0]);
            Due.due("PICK may be", x.may(0) >> PICK & 1, 1);
            Due.due("picks of " + d[0], x.does(0, PICK), 1);
            Due.due("leaves", x.childOf(0, 1), 20 + d[1]);
            Due.due("tree", x.status(5), d[2]);
        }
        PaidInLeaves x = one(0, 0, 1, 7, 20);
        x.ask(1, 0);
        Due.due("of an empty tree", x.does(0, PICK), -6);
        Due.due("may not be", x.may(0) >> PICK & 1, 0);
    }

    private static void stampsOfLeaves() {
        Due.words("2 STAMP: INK of LEAVES (or as many as there are) become STAMPS");
        int[][] due = {{1, 0, 1}, {5, 0, 5}, {6, 0, 6}, {7, 1, 6}};
        for (int[] d : due) {
            PaidInLeaves x = one(0, 0, 1, 7, d[0]);
            x.ask(0, 6);
            Due.due("stamps of " + d[0], x.does(0, STAMP), 1);
            Due.due("leaves", x.childOf(0, 1), d[1]);
            Due.due("stamps", x.childOf(0, 2), d[2]);
            Due.due("ink stays", x.status(4), 6);
        }
        Due.words("STAMP if INK and LEAVES are 1 at least");
        PaidInLeaves x = one(0, 0, 1, 7, 0);
        Due.due("no leaves", x.does(0, STAMP), -6);
        x.tell(0, 1, 1);
        x.ask(0, 0);
        Due.due("no ink", x.does(0, STAMP), -6);
        x.ask(0, 1);
        Due.due("both 1", x.may(0) >> STAMP & 1, 1);
        Due.due("both 1", x.does(0, STAMP), 1);
        Due.due("stamps", x.childOf(0, 2), 1);
    }

    private static void gives() {
        Due.words("3 GIVES a feather: FEATHERS 1 less, for 10 LEAVES (it is out of the garden then)");
        PaidInLeaves x = one(0, 0, 1, 7, 0);
        x.child(1, 0);
        Due.due("none", x.does(0, GIVE), -6);
        x.tell(0, 3, 1);
        Due.due("one", x.does(0, GIVE), 1);
        Due.due("feathers", x.childOf(0, 3), 0);
        Due.due("leaves", x.childOf(0, 1), 10);
        Due.due("nobody has it", x.childOf(1, 3), 0);
        Due.due("no tree", x.status(5), 999);
        Due.due("none again", x.does(0, GIVE), -6);
    }

    private static void buysForAll() {
        Due.words("pays what it ASKS, LEAVES first, then STAMPS");
        // leaves and stamps, and what is left of them
        int[][] due = {{10, 0, 0, 0}, {10, 3, 0, 3}, {9, 1, 0, 0}, {9, 4, 0, 3}, {0, 10, 0, 0}, {11, 0, 1, 0}, {0, 11, 0, 1}};
        for (int[] d : due) {
            PaidInLeaves x = one(0, 5, 10, 1, d[0]);
            x.tell(0, 2, d[1]);
            Due.due("buys", x.does(0, 10), 1);
            Due.due("leaves", x.childOf(0, 1), d[2]);
            Due.due("stamps", x.childOf(0, 2), d[3]);
            Due.due("TILL", x.status(3), 10);
            Due.due("SOLD", x.shopOf(0, 3), 1);
            Due.due("CAKES", x.childOf(0, 4), 1);
        }
        Due.words("BUYS: such a SHOP, which he doesn't keep himself, and he can pay");
        int[][] poor = {{9, 0}, {0, 9}, {5, 4}, {0, 0}};
        for (int[] p : poor) {
            PaidInLeaves x = one(0, 5, 10, 1, p[0]);
            x.tell(0, 2, p[1]);
            Due.due("too poor", x.does(0, 10), -6);
            Due.due("no such shop", x.does(0, 11), -6);
        }
    }

    private static void stampedTakeNoLeaves() {
        Due.words("in STAMPED, FINE: STAMPS only");
        for (int kind = 4; kind <= FINE; kind += 2) {
            PaidInLeaves x = one(kind, 5, 10, 1, 9999);
            x.tell(0, 2, 9);
            Due.due("one stamp too few", x.does(0, 10), -6);
            x.tell(0, 2, 10);
            Due.due("may", x.may(0) >> 10, 1);
            Due.due("buys", x.does(0, 10), 1);
            Due.due("leaves", x.childOf(0, 1), 9999);
            Due.due("stamps", x.childOf(0, 2), 0);
        }
    }

    private static void keeperIsThere() {
        Due.words("who KEEPS that SHOP (of several the first) has these LEAVES, STAMPS (the TILL counts all the same)");
        for (int keeper = 0; keeper < 3; keeper++) {
            PaidInLeaves x = new PaidInLeaves();
            x.shop(0, 0, 99);
            x.shop(0, 0, 10);
            for (int c = 0; c < 4; c++) {
                x.child(1, 7);
                x.tell(c, 2, 20);
            }
            // whoever has a higher number than the first keeper, but for the buyer, keeps it too
            for (int c = keeper; c < 3; c++) {
                x.keeps(c, 1);
            }
            Due.due("buys", x.does(3, 11), 1);
            for (int c = 0; c < 3; c++) {
                Due.due("leaves of " + c, x.childOf(c, 1), c == keeper ? 14 : 7);
                Due.due("stamps of " + c, x.childOf(c, 2), c == keeper ? 23 : 20);
                Due.due(c + " buys there", x.may(c) >> 11 & 1, c < keeper ? 1 : 0);
            }
            Due.due("leaves of the buyer", x.childOf(3, 1), 0);
            Due.due("stamps of the buyer", x.childOf(3, 2), 17);
            Due.due("TILL", x.status(3), 10);
            Due.due("no cake for a keeper", x.childOf(keeper, 4), 0);
        }
    }

    private static void keeperIsFull() {
        Due.words("What one has above 9999 is lost (a keeper)");
        PaidInLeaves x = one(0, 0, 10, 1, 6);
        x.tell(0, 2, 4);
        x.child(1, 9994);
        x.tell(1, 2, 9996);
        x.keeps(1, 0);
        Due.due("buys", x.does(0, 10), 1);
        Due.due("leaves of the keeper", x.childOf(1, 1), 9999);
        Due.due("stamps of the keeper", x.childOf(1, 2), 9999);
        Due.due("TILL", x.status(3), 10);
    }

    private static void aboveIsLost() {
        Due.words("What one has above 9999 is lost; PICK takes from the TREE all that is picked");
        PaidInLeaves x = one(0, 0, 1, 50, 9949);
        x.does(0, PICK);
        Due.due("9999 just so", x.childOf(0, 1), 9999);
        x.does(0, PICK);
        Due.due("50 lost", x.childOf(0, 1), 9999);
        Due.due("the tree", x.status(5), 899);
        x.tell(0, 3, 2);
        x.tell(0, 1, 9989);
        x.does(0, GIVE);
        Due.due("by a feather just so", x.childOf(0, 1), 9999);
        x.does(0, GIVE);
        Due.due("by a feather", x.childOf(0, 1), 9999);
        Due.due("the feather is gone", x.childOf(0, 3), 0);
        x.ask(0, 99);
        x.tell(0, 2, 9900);
        x.does(0, STAMP);
        Due.due("stamps just so", x.childOf(0, 2), 9999);
        x.does(0, STAMP);
        Due.due("stamps", x.childOf(0, 2), 9999);
        Due.due("the leaves are gone", x.childOf(0, 1), 9801);
    }

    private static void whatMayNotBeIsARest() {
        Due.words("each child a DRAW below 4: 1 PICK, 2 STAMP (a REST, if it MAY not be)");
        for (int draw = 0; draw < 4; draw++) {
            PaidInLeaves x = one(0, 0, 10, 1, 9);
            x.ask(0, 0);
            x.ask(1, 0);
            x.seed(seedOf(draw));
            Due.due("no deal by draw " + draw, x.afternoon(1), 0);
            Due.due("a minute", x.status(2), 1);
            Due.due("leaves", x.childOf(0, 1), 9);
            Due.due("stamps", x.childOf(0, 2), 0);
            Due.due("tree", x.status(5), 0);
        }
        Due.words("0 RULE 0's DEED, 1 PICK, 2 STAMP, 3 RULE 3's");
        // RULE 0 buys at 11; RULE 3 picks, for 11 is more than 10 times 1
        int[][] due = {{0, 0}, {12, 0}, {6, 5}, {12, 0}};
        for (int draw = 0; draw < 4; draw++) {
            PaidInLeaves x = one(0, 0, 11, 1, 11);
            x.seed(seedOf(draw));
            Due.due("deals by draw " + draw, x.afternoon(1), draw == 0 ? 1 : 0);
            Due.due("leaves by draw " + draw, x.childOf(0, 1), due[draw][0]);
            Due.due("stamps by draw " + draw, x.childOf(0, 2), due[draw][1]);
        }
    }

    /** The first seed from 1 on whose next draw below 4 is this one. */
    private static int seedOf(int draw) {
        for (int seed = 1; seed < 1000; seed++) {
            if ((seed * 1103515245 + 12345 >>> 16) % 4 == draw) {
                return seed;
            }
        }
        return 0;
    }

    private static void quietIsLimited() {
        Due.words("each SHOP that SOLD nothing in it is QUIET 1 more (999 at most)");
        PaidInLeaves x = one(2, 1, 999, 1, 0);
        x.ask(1, 0);
        for (int i = 0; i < 4; i++) {
            x.afternoon(240);
        }
        x.afternoon(38);
        Due.due("QUIET 998", x.shopOf(0, 4), 998);
        Due.due("ASKS", x.shopOf(0, 5), 1);
        x.minute(0);
        Due.due("QUIET 999", x.shopOf(0, 4), 999);
        x.minute(0);
        Due.due("QUIET 999 still", x.shopOf(0, 4), 999);
        Due.due("CLOCK", x.status(2), 1000);
        x.tell(0, 1, 1);
        x.minute(0);
        Due.due("QUIET 0 by a cake", x.shopOf(0, 4), 0);
    }

    private static void quietWithoutMinute() {
        Due.words("A cake that is bought without a minute sets QUIET to 0, and the next minute in which nothing is SOLD makes it 1");
        for (int way = 0; way < 4; way++) {
            PaidInLeaves x = one(5, 0, 20, 1, 0);
            x.ask(1, 0);
            x.minute(0);
            x.minute(3);
            Due.due("QUIET 2", x.shopOf(0, 4), 2);
            x.tell(0, 1, 18);
            if (way == 3) {
                Due.reads(x, "do 0 10", 1);
            } else {
                Due.due("buys", x.does(0, 10), 1);
            }
            Due.due("QUIET 0", x.shopOf(0, 4), 0);
            Due.due("behind a minute in thought", x.asks(0, 1, 0), 19);
            if (way == 1) {
                x.afternoon(1);
            } else if (way == 2) {
                x.row(0, 0, 1);
                x.done(0, 1);
            } else {
                x.minute(0);
            }
            Due.due("QUIET 1 by way " + way, x.shopOf(0, 4), 1);
        }
    }

    private static void nights() {
        Due.words("A NIGHT: of LEAVES half is lost (the greater one); each child loses the greater half of its own LEAVES");
        PaidInLeaves x = new PaidInLeaves();
        Due.due("nobody's", x.night(), 0);
        int[] leaves = {0, 1, 2, 3, 9998, 9999};
        int[] left = {0, 0, 1, 1, 4999, 4999};
        for (int c = 0; c < 6; c++) {
            x.child(1, leaves[c]);
        }
        Due.due("ROT", x.rot(0, 0), 1 + 1 + 2 + 4999 + 5000);
        Due.due("lost", x.night(), 1 + 1 + 2 + 4999 + 5000);
        for (int c = 0; c < 6; c++) {
            Due.due("left of " + leaves[c], x.childOf(c, 1), left[c]);
        }
        Due.words("TREE is 999");
        for (int tree : new int[] {0, 998, 999, 1000, 9999}) {
            x.ask(1, tree);
            x.night();
            Due.due("of " + tree, x.status(5), 999);
        }
    }

    private static void nightLeavesTheRest() {
        Due.words("SOLD and QUIET are 0; DEALS in all are not less behind a NIGHT");
        PaidInLeaves x = one(1, 3, 5, 4, 6);
        x.shop(2, 1, 90);
        x.tell(0, 2, 7);
        x.tell(0, 3, 8);
        x.keeps(0, 1);
        x.ask(0, 9);
        x.minute(0);
        x.minute(0);
        Due.due("DEAR sold", x.shopOf(0, 3), 2);
        Due.due("SLACK is quiet", x.shopOf(1, 4), 2);
        x.tell(0, 1, 5);
        x.tell(0, 2, 7);
        Due.due("lost", x.night(), 3);
        int[] child = {4, 2, 7, 8, 2, 2};
        int[][] shops = {{1, 3, 5, 0, 0, 5}, {2, 1, 90, 0, 0, 90}};
        int[] status = {2, 1, 2, 13, 9, 999, 2, 1};
        for (int what = 0; what < 6; what++) {
            Due.due("child " + what, x.childOf(0, what), child[what]);
            Due.due("DEAR " + what, x.shopOf(0, what), shops[0][what]);
            Due.due("SLACK " + what, x.shopOf(1, what), shops[1][what]);
        }
        for (int what = 0; what < status.length; what++) {
            Due.due("status " + what, x.status(what), status[what]);
        }
    }

    // ---- Details of told afternoons

    private static void toldWithoutWholeMinute() {
        Due.words("as many minutes as there are whole rows of all children in n elements; elements behind the last whole minute do not count");
        PaidInLeaves x = one(0, 0, 1, 1, 9);
        x.child(1, 9);
        x.child(1, 9);
        Due.lay(x, 0, 10, 10, 10, 99, 99);
        int[] cakes = {0, 0, 0, 3, 3, 3};
        for (int n = 0; n <= 5; n++) {
            Due.due("judge " + n, x.judge(0, n), NONE);
            Due.due("told " + n, x.told(0, n, 0), cakes[n]);
        }
        Due.due("done of two elements", x.done(0, 2), 0);
        Due.due("QUIET", x.shopOf(0, 4), 0);
        Due.due("done of five elements", x.done(0, 5), 1);
        Due.due("SOLD", x.shopOf(0, 3), 3);
        Due.words("Told AFTERNOONS without children have no minutes");
        PaidInLeaves y = new PaidInLeaves();
        y.shop(5, 0, 9);
        y.row(0, 3, 160);
        y.set(0, 0, 99);
        Due.due("judge", y.judge(0, 160), NONE);
        Due.due("told", y.told(0, 160, 0), 0);
        Due.due("done", y.done(0, 160), 0);
        Due.due("QUIET", y.shopOf(0, 4), 0);
        // but an afternoon by draws has its minutes
        Due.due("drawn", y.afternoon(7), 0);
        Due.due("QUIET", y.shopOf(0, 4), 7);
        Due.due("SEED", y.status(7), 1);
    }

    private static void toldMinutesAreMinutes() {
        Due.words("A MINUTE: each child, by numbers, does a DEED; then each SHOP that SOLD nothing in it is QUIET 1 more; CLOCK is 1 more");
        PaidInLeaves x = one(0, 0, 1, 1, 1);
        x.child(1, 0);
        x.shop(2, 1, 50);
        x.keeps(1, 0);
        x.keeps(0, 1);
        // child 0's leaf comes to child 1 by the cake, in the same minute
        Due.lay(x, 0, 10, 2, 0, 0, 0, 0);
        Due.due("judge", x.judge(0, 2), NONE);
        Due.due("done", x.done(0, 2), 1);
        Due.due("a stamp", x.childOf(1, 2), 1);
        Due.due("QUIET of the busy", x.shopOf(0, 4), 0);
        Due.due("QUIET of the other", x.shopOf(1, 4), 1);
        Due.due("done", x.done(0, 0), 1);
        Due.lay(x, 1, 0, 0, 0, 0);
        Due.due("told by a busy shop of before", x.told(1, 4, 0), 0);
        Due.due("done", x.done(1, 4), 3);
        Due.due("QUIET of the busy one of before", x.shopOf(0, 4), 2);
        Due.due("QUIET of the other", x.shopOf(1, 4), 3);
        // the other way about it may not be
        PaidInLeaves y = one(0, 0, 1, 1, 0);
        y.child(1, 1);
        y.keeps(0, 0);
        Due.lay(y, 0, 2, 10);
        Due.due("judge", y.judge(0, 2), 0);
    }
}
