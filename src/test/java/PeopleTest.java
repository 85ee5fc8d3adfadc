/** Promises 9 to 15: shops, children, what is told of them. */
public final class PeopleTest {
    public static void main(String[] args) {
        shops();
        children();
        tells();
        keepings();
        asked();
        Due.end();
    }

    private static void shops() {
        PaidInLeaves x = new PaidInLeaves();
        Due.due("no kind", x.shop(7, 10, 0), -1);
        Due.due("no kind below", x.shop(-1, 0, 1), -1);
        Due.due("a 10", x.shop(0, 10, 1), -6);
        Due.due("a -1", x.shop(0, -1, 1), -6);
        Due.due("price 0", x.shop(0, 0, 0), -6);
        Due.due("price 1000", x.shop(0, 0, 1000), -6);
        Due.due("shop 0", x.shop(0, 0, 1), 0);
        Due.due("shop 1", x.shop(6, 9, 999), 1);
        for (int i = 2; i < 6; i++) {
            Due.due("shop " + i, x.shop(i, i, 10 * i), i);
        }
        Due.due("a seventh", x.shop(0, 0, 1), -7);
        Due.due("a seventh of a wrong price", x.shop(0, 0, 0), -6);
        Due.due("shops", x.status(0), 6);
        int[] want = {6, 9, 999, 0, 0, 999};
        for (int what = 0; what < 6; what++) {
            Due.due("shopOf(1, " + what + ")", x.shopOf(1, what), want[what]);
        }
        Due.due("shopOf(1, 6)", x.shopOf(1, 6), -5);
        Due.due("shopOf(1, -1)", x.shopOf(1, -1), -5);
        Due.due("shopOf(6, 0)", x.shopOf(6, 0), -5);
        Due.due("shopOf(-1, 0)", x.shopOf(-1, 0), -5);
        Due.refused(x, 2, 0, 0, 0, 4, 5, 1);
    }

    private static void children() {
        PaidInLeaves x = new PaidInLeaves();
        Due.due("nimble 0", x.child(0, 0), -6);
        Due.due("nimble 100", x.child(100, 0), -6);
        Due.due("leaves -1", x.child(1, -1), -6);
        Due.due("leaves 10000", x.child(1, 10000), -6);
        Due.due("child 0", x.child(1, 0), 0);
        Due.due("child 1", x.child(99, 9999), 1);
        for (int i = 2; i < 6; i++) {
            Due.due("child " + i, x.child(i, i), i);
        }
        Due.due("a seventh", x.child(1, 1), -7);
        Due.due("a seventh of wrong leaves", x.child(1, -1), -6);
        Due.due("children", x.status(1), 6);
        int[] want = {99, 9999, 0, 0, 0, 0};
        for (int what = 0; what < 6; what++) {
            Due.due("childOf(1, " + what + ")", x.childOf(1, what), want[what]);
        }
        Due.due("childOf(1, 6)", x.childOf(1, 6), -5);
        Due.due("childOf(1, -1)", x.childOf(1, -1), -5);
        Due.due("childOf(6, 0)", x.childOf(6, 0), -5);
        Due.due("childOf(-1, 0)", x.childOf(-1, 0), -5);
        Due.refused(x, 0, 0, 0, 0, 4, 5, 1);
    }

    private static void tells() {
        PaidInLeaves x = new PaidInLeaves();
        x.child(3, 7);
        Due.due("leaves", x.tell(0, 1, 9999), 7);
        Due.due("leaves again", x.tell(0, 1, 0), 9999);
        Due.due("stamps", x.tell(0, 2, 9999), 0);
        Due.due("stamps again", x.tell(0, 2, 4), 9999);
        Due.due("feathers", x.tell(0, 3, 99), 0);
        Due.due("feathers again", x.tell(0, 3, 5), 99);
        Due.due("leaves stand", x.childOf(0, 1), 0);
        Due.due("stamps stand", x.childOf(0, 2), 4);
        Due.due("feathers stand", x.childOf(0, 3), 5);
        Due.due("leaves 10000", x.tell(0, 1, 10000), -6);
        Due.due("stamps 10000", x.tell(0, 2, 10000), -6);
        Due.due("feathers 100", x.tell(0, 3, 100), -6);
        Due.due("leaves -1", x.tell(0, 1, -1), -6);
        Due.due("stamps -1", x.tell(0, 2, -1), -6);
        Due.due("feathers -1", x.tell(0, 3, -1), -6);
        Due.due("what 0", x.tell(0, 0, 1), -6);
        Due.due("what 4", x.tell(0, 4, 1), -6);
        Due.due("no child", x.tell(1, 4, 1), -1);
        Due.due("no child below", x.tell(-1, 1, 1), -1);
        Due.refused(x, 2, 0, 0, 0, 0, 8, 0);
    }

    private static void keepings() {
        PaidInLeaves x = new PaidInLeaves();
        x.child(3, 7);
        Due.due("no shop", x.keeps(0, 0), -11);
        x.shop(0, 0, 2);
        x.shop(0, 0, 1);
        Due.due("first", x.keeps(0, 1), -1);
        Due.due("childOf", x.childOf(0, 5), 2);
        Due.due("second", x.keeps(0, 0), 1);
        Due.due("none", x.keeps(0, -1), 0);
        Due.due("childOf none", x.childOf(0, 5), 0);
        Due.due("no child", x.keeps(1, 0), -11);
        Due.due("no child below", x.keeps(-1, -1), -11);
        Due.due("no such shop", x.keeps(0, 2), -11);
        Due.due("no such shop below", x.keeps(0, -2), -11);
        Due.refused(x, 5, 0, 0, 0, 0, 0, 0);
    }

    private static void asked() {
        PaidInLeaves x = new PaidInLeaves();
        Due.due("ink", x.ask(0, 99), 5);
        Due.due("ink again", x.ask(0, 0), 99);
        Due.due("tree", x.ask(1, 9999), 999);
        Due.due("tree again", x.ask(1, 0), 9999);
        Due.due("ink stands", x.status(4), 0);
        Due.due("tree stands", x.status(5), 0);
        Due.due("ink 100", x.ask(0, 100), -6);
        Due.due("ink -1", x.ask(0, -1), -6);
        Due.due("tree 10000", x.ask(1, 10000), -6);
        Due.due("tree -1", x.ask(1, -1), -6);
        Due.due("what 2", x.ask(2, 1), -6);
        Due.due("what -1", x.ask(-1, 1), -6);
        Due.refused(x, 0, 0, 0, 0, 0, 6, 0);
    }
}
