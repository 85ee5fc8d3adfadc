/** Promises 16 and 17: gardens read from texts, and their faults. */
public final class GardenTest {
    public static void main(String[] args) {
        wholeGarden();
        endsTooEarly();
        wrongLetters();
        wrongNumbers();
        noRoom();
        deedsInTexts();
        allOrNothing();
        rowsOfAllSorts();
        refusals();
        Due.end();
    }

    private static void wholeGarden() {
        PaidInLeaves x = new PaidInLeaves();
        Due.reads(x, "shop 3 9 999;child 99 9999;feathers 0 99;keeps 0 0;ink 99;tree 0;child 01 0012;do 0 3;night", 9);
    }

    private static void endsTooEarly() {
        String text = "shop 0 0 5;child 3 20;feathers 0 2;keeps 0 0;ink 9;tree 50;do 0 1;night";
        // an end is a fault but where an item is whole
        boolean[] whole = new boolean[text.length() + 1];
        for (String item : new String[] {"shop 0 0 5", "child 3 2", "child 3 20", "feathers 0 2", "keeps 0 0", "ink 9",
            "tree 5", "tree 50", "do 0 1", "night"}) {
            whole[text.indexOf(item) + item.length()] = true;
        }
        for (int n = 0; n <= text.length(); n++) {
            PaidInLeaves x = new PaidInLeaves();
            Due.lay(x, 0, text.substring(0, n));
            int items = text.substring(0, n).split(";", -1).length;
            Due.due("garden of the first " + n, x.garden(0), whole[n] ? items : -6);
            Due.due("fault of the first " + n, x.fault(), whole[n] ? -1 : n);
        }
    }

    private static void wrongLetters() {
        PaidInLeaves x = new PaidInLeaves();
        x.shop(0, 0, 1);
        x.child(1, 1);
        Due.faults(x, "x", 0);
        Due.faults(x, " night", 0);
        Due.faults(x, "Night", 0);
        Due.faults(x, "nighT", 4);
        Due.faults(x, "night ", 5);
        Due.faults(x, "nights", 5);
        Due.faults(x, "night;", 6);
        Due.faults(x, "night; night", 6);
        Due.faults(x, "night;;night", 6);
        Due.faults(x, ";night", 0);
        Due.faults(x, "shp", 2);
        Due.faults(x, "ink  5", 4);
        Due.faults(x, "ink5", 3);
        Due.faults(x, "ink 5 ", 5);
        Due.faults(x, "ink 5x", 5);
        Due.faults(x, "ink -5", 4);
        Due.faults(x, "do 0 1 ;night", 6);
        Due.faults(x, "do 0;1", 4);
        Due.faults(x, "shop 0;0 1", 6);
        Due.faults(x, "tree 00100", 9);
        Due.faults(x, "tree 10000", 9);
        Due.faults(x, "child 00010 1", 10);
        Due.faults(x, "do 0 00010", 9);
        PaidInLeaves y = new PaidInLeaves();
        y.row(0, 0, 1);
        y.set(0, 0, -1);
        Due.due("an element of -1 is no letter", y.garden(0), -6);
        Due.due("its fault", y.fault(), 0);
    }

    private static void wrongNumbers() {
        PaidInLeaves x = new PaidInLeaves();
        Due.faults(x, "feathers 0 1", 9);
        Due.faults(x, "keeps 0 0", 6);
        Due.faults(x, "do 0 0", 3);
        x.shop(0, 0, 1);
        x.child(1, 1);
        Due.faults(x, "shop 7 0 1", 5);
        Due.faults(x, "shop 7", 5);
        Due.faults(x, "shop 7x", 5);
        Due.faults(x, "shop 0 10 1", 7);
        Due.faults(x, "shop 0 0 0", 9);
        Due.faults(x, "shop 0 0 1000", 9);
        Due.faults(x, "child 0 1", 6);
        Due.faults(x, "child 100 1", 6);
        Due.faults(x, "child 1 10000", 12);
        Due.faults(x, "feathers 1 1", 9);
        Due.faults(x, "feathers 0 100", 11);
        Due.faults(x, "keeps 1 0", 6);
        Due.faults(x, "keeps 0 1", 8);
        Due.faults(x, "ink 100", 4);
        Due.faults(x, "ink 01000", 4);
        Due.faults(x, "ink 5;ink 0100;ink 5", 10);
        Due.faults(x, "do 1 0", 3);
        Due.reads(x, "shop 0006 0009 0999;child 0099 9999;feathers 0001 0099;keeps 01 001;ink 0099;tree 9999;do 00 0000", 7);
        Due.due("kind", x.shopOf(1, 0), 6);
        Due.due("a", x.shopOf(1, 1), 9);
        Due.due("price", x.shopOf(1, 2), 999);
        Due.due("nimble", x.childOf(1, 0), 99);
        Due.due("leaves", x.childOf(1, 1), 9999);
        Due.due("feathers", x.childOf(1, 3), 99);
        Due.due("keeps", x.childOf(1, 5), 2);
        Due.due("ink", x.status(4), 99);
        Due.due("tree", x.status(5), 9999);
    }

    private static void noRoom() {
        PaidInLeaves x = new PaidInLeaves();
        for (int i = 0; i < 5; i++) {
            x.shop(0, 0, 1);
            x.child(1, 1);
        }
        Due.faults(x, "shop 0 0 1;shop 0 0 1", 11);
        Due.faults(x, "child 1 1;child 1 1", 10);
        Due.due("shops still", x.status(0), 5);
        Due.reads(x, "shop 0 0 1;child 1 1", 2);
        Due.faults(x, "shop", 0);
        Due.faults(x, "sho", 3);
        Due.faults(x, "shox", 3);
        Due.faults(x, "shop 0 0 1", 0);
        Due.faults(x, "shopx", 0);
        Due.faults(x, "child", 0);
        Due.faults(x, "chil", 4);
        Due.faults(x, "night;child 1 1", 6);
        Due.faults(x, "night;chilx 1 1", 10);
    }

    private static void deedsInTexts() {
        PaidInLeaves x = new PaidInLeaves();
        Due.faults(x, "child 3 0;do 0 2", 15);
        Due.faults(x, "child 3 0;do 0 3", 15);
        Due.faults(x, "child 3 0;do 0 4", 15);
        Due.faults(x, "child 3 0;do 0 9", 15);
        Due.faults(x, "child 3 0;do 0 10", 15);
        Due.faults(x, "child 3 0;do 0 16", 15);
        Due.faults(x, "child 3 0;do 0 9999", 15);
        Due.faults(x, "tree 0;child 3 0;do 0 1", 22);
        Due.faults(x, "shop 0 0 4;child 3 0;do 0 1;do 0 10", 33);
        Due.reads(x, "shop 0 0 4;child 3 0;do 0 1;do 0 1;do 0 10;feathers 0 1;do 0 3;do 0 2;do 0 0", 9);
        Due.due("leaves", x.childOf(0, 1), 7);
        Due.due("stamps", x.childOf(0, 2), 5);
        Due.due("feathers", x.childOf(0, 3), 0);
        Due.due("cakes", x.childOf(0, 4), 1);
        Due.due("tree", x.status(5), 993);
        Due.due("till", x.status(3), 4);
        Due.due("deals", x.status(6), 1);
        Due.due("no minute", x.status(2), 0);
        Due.reads(x, "night", 1);
        Due.due("leaves of the morning", x.childOf(0, 1), 3);
        Due.due("sold of the morning", x.shopOf(0, 3), 0);
        Due.due("tree of the morning", x.status(5), 999);
        Due.due("deals of the morning", x.status(6), 1);
    }

    private static void allOrNothing() {
        PaidInLeaves x = new PaidInLeaves();
        Due.faults(x, "shop 0 0 1;child 9 9;ink 1;tree 1;feathers 0 5;keeps 0 0;do 0 1;night;nigh", 74);
        Due.due("no shops", x.status(0), 0);
        Due.due("no children", x.status(1), 0);
        Due.due("ink", x.status(4), 5);
        Due.due("tree", x.status(5), 999);
        Due.refused(x, 0, 0, 0, 0, 0, 1, 0);
    }

    private static void rowsOfAllSorts() {
        String text = "ink 7";
        for (int sort = 0; sort < 4; sort++) {
            PaidInLeaves x = new PaidInLeaves();
            x.row(0, sort, 5);
            for (int i = 0; i < 5; i++) {
                x.set(0, i, text.charAt(i) + (7L << 32));
            }
            Due.due("garden of sort " + sort, x.garden(0), 1);
            Due.due("ink", x.status(4), 7);
            x.set(0, 4, 256 + '8');
            Due.due("garden of sort " + sort + " with 256", x.garden(0), sort == 0 ? 1 : -6);
            Due.due("its fault", x.fault(), sort == 0 ? -1 : 4);
        }
    }

    private static void refusals() {
        PaidInLeaves x = new PaidInLeaves();
        Due.faults(x, "", 0);
        Due.due("no shelf", x.garden(8), -1);
        Due.due("no shelf below", x.garden(-1), -1);
        Due.due("nothing", x.garden(0), -3);
        x.shop(0, 0, 1);
        x.show(0, 0);
        Due.due("a shop", x.garden(0), -2);
        Due.due("the fault stays where no row was come to", x.fault(), 0);
        Due.reads(x, "night", 1);
        Due.due("nothing again", x.garden(1), -3);
        Due.due("no fault stays too", x.fault(), -1);
        Due.refused(x, 2, 1, 2, 0, 0, 1, 0);
    }
}
