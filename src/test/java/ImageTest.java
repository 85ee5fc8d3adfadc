/** Promises 44 to 46: the image, and the status. */
public final class ImageTest {
    public static void main(String[] args) {
        noImage();
        allIsRestored();
        shelvesAfterwards();
        allShelvesAfterwards();
        newOnesAreNew();
        emptyAndFullImages();
        whatIsNotInIt();
        status();
        Due.end();
    }

    private static void noImage() {
        PaidInLeaves x = new PaidInLeaves();
        x.shop(0, 0, 1);
        Due.due("restore", x.restore(), -6);
        Due.due("shops", x.status(0), 1);
        Due.refused(x, 0, 0, 0, 0, 0, 1, 0);
    }

    private static PaidInLeaves busy() {
        PaidInLeaves x = new PaidInLeaves();
        x.shop(1, 2, 3);
        x.shop(6, 1, 4);
        x.child(9, 30);
        x.child(5, 60);
        x.tell(0, 2, 8);
        x.tell(1, 3, 7);
        x.keeps(1, 0);
        x.ask(0, 6);
        x.ask(1, 500);
        x.seed(77);
        x.minute(0);
        x.minute(2);
        return x;
    }

    private static void allIsRestored() {
        PaidInLeaves x = busy();
        PaidInLeaves same = busy();
        Due.due("image", x.image(), 2);
        for (int round = 0; round < 2; round++) {
            x.shop(3, 1, 1);
            x.child(1, 1);
            x.keeps(0, 2);
            x.keeps(1, -1);
            x.tell(0, 3, 4);
            x.tell(1, 2, 99);
            x.does(1, 12);
            x.afternoon(30);
            x.night();
            x.ask(0, 1);
            x.ask(1, 1);
            Due.due("restore", x.restore(), 2);
            for (int i = 0; i < 2; i++) {
                for (int what = 0; what < 6; what++) {
                    Due.due("shop " + i + " " + what, x.shopOf(i, what), same.shopOf(i, what));
                    Due.due("child " + i + " " + what, x.childOf(i, what), same.childOf(i, what));
                }
            }
            for (int what = 0; what < 8; what++) {
                Due.due("status " + what, x.status(what), same.status(what));
            }
        }
        Due.due("no third shop", x.shopOf(2, 0), -5);
        Due.due("a third shop anew", x.shop(0, 5, 6), 2);
        Due.due("nothing sold in it", x.shopOf(2, 3), 0);
        Due.due("a third child anew", x.child(4, 4), 2);
        Due.due("no cakes", x.childOf(2, 4), 0);
        Due.due("a new image", x.image(), 3);
        Due.due("restore it", x.restore(), 3);
        Due.due("its shop", x.shopOf(2, 1), 5);
    }

    private static void shelvesAfterwards() {
        PaidInLeaves x = new PaidInLeaves();
        x.shop(0, 0, 1);
        x.image();
        x.shop(0, 0, 2);
        x.show(0, 0);
        x.show(1, 1);
        x.row(2, 1, 3);
        x.set(2, 0, 9);
        Due.due("restore", x.restore(), 1);
        Due.due("a shop", x.holds(0), 0);
        Due.due("nothing", x.holds(1), -1);
        Due.due("a row", x.holds(2), 101);
        Due.due("its element", x.element(2, 0), 9);
        Due.due("says", x.says(1, 0), -3);
    }

    private static void allShelvesAfterwards() {
        Due.words("SHELVES with SHOPS hold those of these numbers, or NOTHING");
        PaidInLeaves x = new PaidInLeaves();
        x.image();
        for (int i = 0; i < 6; i++) {
            x.shop(0, 0, 1 + i);
        }
        for (int s = 0; s < 8; s++) {
            x.show(s, s % 6);
        }
        Due.due("restore nothing", x.restore(), 0);
        for (int s = 0; s < 8; s++) {
            Due.due("holds(" + s + ")", x.holds(s), -1);
        }
        x.shop(0, 0, 50);
        x.shop(0, 0, 60);
        x.image();
        x.shop(0, 0, 70);
        for (int s = 0; s < 8; s++) {
            x.show(s, s % 3);
        }
        x.restore();
        for (int s = 0; s < 8; s++) {
            Due.due("holds(" + s + ")", x.holds(s), s % 3 == 2 ? -1 : s % 3);
            Due.due("says(" + s + ")", x.says(s, 0), s % 3 == 2 ? -3 : 50 + s % 3 * 10);
        }
    }

    private static void newOnesAreNew() {
        Due.words("SOLD (0 at first), QUIET (0 at first); CAKES (0 at first), KEEPS (NONE at first)");
        PaidInLeaves x = new PaidInLeaves();
        x.shop(0, 0, 1);
        x.image();
        x.shop(1, 2, 3);
        x.shop(2, 2, 3);
        x.child(9, 99);
        x.tell(0, 2, 7);
        x.tell(0, 3, 6);
        x.keeps(0, 2);
        x.does(0, 11);
        x.minute(0);
        x.restore();
        Due.due("a shop where one was", x.shop(1, 2, 3), 1);
        Due.due("another", x.shop(2, 2, 3), 2);
        Due.due("a child where one was", x.child(5, 4), 0);
        int[] child = {5, 4, 0, 0, 0, 0};
        for (int what = 0; what < 6; what++) {
            Due.due("child " + what, x.childOf(0, what), child[what]);
        }
        for (int s = 1; s < 3; s++) {
            Due.due("sold of " + s, x.shopOf(s, 3), 0);
            Due.due("quiet of " + s, x.shopOf(s, 4), 0);
            Due.due("asks of " + s, x.shopOf(s, 5), 3);
        }
    }

    private static void emptyAndFullImages() {
        Due.words("THE IMAGE of all is taken: how many SHOPS");
        PaidInLeaves x = new PaidInLeaves();
        Due.due("of nothing", x.image(), 0);
        Due.due("nothing restored", x.restore(), 0);
        for (int i = 0; i < 6; i++) {
            x.shop(i, i, 10 + i);
            x.child(1 + i, 20 + i);
        }
        for (int i = 0; i < 6; i++) {
            Due.due("keeps none yet", x.keeps(i, 5 - i), -1);
        }
        Due.due("of six", x.image(), 6);
        PaidInLeaves y = new PaidInLeaves();
        y.image();
        x.afternoon(60);
        x.night();
        Due.due("six restored", x.restore(), 6);
        Due.due("children", x.status(1), 6);
        for (int i = 0; i < 6; i++) {
            Due.due("asks of " + i, x.shopOf(i, 5), 10 + i);
            Due.due("leaves of " + i, x.childOf(i, 1), 20 + i);
            Due.due("keeps of " + i, x.childOf(i, 5), 6 - i);
        }
        Due.due("seed", x.status(7), 1);
        Due.due("no room in it", x.shop(0, 0, 1), -7);
        Due.due("no room for a child", x.child(1, 0), -7);
        Due.due("another object's", y.restore(), 0);
    }

    private static void whatIsNotInIt() {
        Due.words("all but SHELVES (and THE IMAGE, REFUSALS, the FAULT, THE TRACE)");
        PaidInLeaves x = new PaidInLeaves();
        x.shop(0, 0, 1);
        x.image();
        x.act(0, 1, 1);
        Due.faults(x, "nigh", 4);
        x.shop(9, 9, 9);
        Due.due("restore", x.restore(), 1);
        Due.due("trace", x.trace(0), 11);
        Due.due("bodies", x.status(8), 2);
        Due.due("fault", x.fault(), 4);
        Due.refused(x, 1, 0, 0, 0, 0, 1, 0);
    }

    private static void status() {
        Due.words("NONE for another what");
        PaidInLeaves x = busy();
        int[] want = {2, 2, 2, x.status(3), 6, x.status(5), x.status(6), 77, 0};
        for (int what = 0; what < want.length; what++) {
            Due.due("status " + what, x.status(what), want[what]);
        }
        Due.due("a till", x.status(3), 3);
        Due.due("a deal", x.status(6), 1);
        for (int what : new int[] {-1, 9, 10, 18, Integer.MAX_VALUE, Integer.MIN_VALUE}) {
            Due.due("status " + what, x.status(what), -1);
        }
        Due.refused(x, 0, 0, 0, 0, 0, 0, 0);
    }
}
