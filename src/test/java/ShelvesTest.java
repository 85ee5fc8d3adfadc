/** Promises 1 to 8: a new object, rows, and shops on shelves. */
public final class ShelvesTest {
    public static void main(String[] args) {
        newObject();
        rows();
        rowRefusals();
        sorts();
        copies();
        copyRefusals();
        lowestBits();
        emptyAndFullRows();
        shelvesGiveWay();
        shows();
        saysByKinds();
        Due.end();
    }

    private static void newObject() {
        PaidInLeaves x = new PaidInLeaves();
        int[] first = {0, 0, 0, 0, 5, 999, 0, 1, 0, -1, -1, 0, 0, 0, 0, 0, 0, 0, -1};
        for (int what = 0; what < first.length; what++) {
            Due.due("status(" + what + ") of a new one", x.status(what), first[what]);
        }
        for (int s = -1; s <= 8; s++) {
            Due.due("holds(" + s + ") of a new one", x.holds(s), -1);
            Due.due("element of a new one", x.element(s, 0), 0);
        }
        Due.due("fault of a new one", x.fault(), -1);
        Due.due("trace of a new one", x.trace(0), -1);
        Due.due("NONE", PaidInLeaves.NONE, -1);
    }

    private static void rows() {
        PaidInLeaves x = new PaidInLeaves();
        Due.due("row(0, 0, 160)", x.row(0, 0, 160), 1);
        Due.due("row(7, 3, 0)", x.row(7, 3, 0), 1);
        Due.due("holds(0)", x.holds(0), 100);
        Due.due("holds(7)", x.holds(7), 103);
        Due.due("set(0, 159, 5)", x.set(0, 159, 5), 1);
        Due.due("element(0, 159)", x.element(0, 159), 5);
        Due.due("element(0, 160)", x.element(0, 160), 0);
        Due.due("element(0, -1)", x.element(0, -1), 0);
        Due.due("element(0, MAX)", x.element(0, Integer.MAX_VALUE), 0);
        Due.due("element(0, MIN)", x.element(0, Integer.MIN_VALUE), 0);
        Due.due("row(0, 1, 160) anew", x.row(0, 1, 160), 1);
        Due.due("element(0, 159) anew", x.element(0, 159), 0);
        Due.due("row(0, 1, 3) shorter", x.row(0, 1, 3), 1);
        Due.due("set(0, 3, 1) behind the end", x.set(0, 3, 1), -5);
        Due.refused(x, 0, 0, 0, 0, 1, 0, 0);
    }

    private static void rowRefusals() {
        PaidInLeaves x = new PaidInLeaves();
        Due.due("row(-1, 9, -1)", x.row(-1, 9, -1), -1);
        Due.due("row(8, 0, 1)", x.row(8, 0, 1), -1);
        Due.due("row(0, 9, -1)", x.row(0, 9, -1), -4);
        Due.due("row(0, 4, 161)", x.row(0, 4, 161), -6);
        Due.due("row(0, -1, 1)", x.row(0, -1, 1), -6);
        Due.due("row(0, 3, 161)", x.row(0, 3, 161), -7);
        Due.due("holds(0)", x.holds(0), -1);
        Due.due("set(-1, 0, 0)", x.set(-1, 0, 0), -1);
        Due.due("set(8, 0, 0)", x.set(8, 0, 0), -1);
        Due.due("set(0, 0, 0) of nothing", x.set(0, 0, 0), -3);
        x.shop(0, 0, 1);
        x.show(0, 0);
        Due.due("set(0, -1, 0) of a shop", x.set(0, -1, 0), -2);
        Due.due("element(0, 0) of a shop", x.element(0, 0), 0);
        x.row(0, 0, 0);
        Due.due("set(0, 0, 0) of an empty row", x.set(0, 0, 0), -5);
        Due.due("set(0, -1, 0) of an empty row", x.set(0, -1, 0), -5);
        Due.refused(x, 4, 1, 1, 1, 2, 2, 1);
    }

    private static void sorts() {
        PaidInLeaves x = new PaidInLeaves();
        long v = 0x123456789abcdef0L;
        long[] want = {(byte) v, (short) v, (int) v, v};
        for (int sort = 0; sort < 4; sort++) {
            x.row(sort, sort, 2);
            Due.due("set", x.set(sort, 1, v), 1);
            Due.due("element of sort " + sort, x.element(sort, 1), want[sort]);
            Due.due("element ahead of it", x.element(sort, 0), 0);
            x.set(sort, 0, Long.MIN_VALUE);
            Due.due("least of sort " + sort, x.element(sort, 0), sort == 3 ? Long.MIN_VALUE : 0);
            x.set(sort, 0, 255);
            Due.due("255 of sort " + sort, x.element(sort, 0), sort == 0 ? -1 : 255);
        }
    }

    private static void copies() {
        PaidInLeaves x = new PaidInLeaves();
        x.row(0, 2, 6);
        x.row(1, 2, 3);
        for (int i = 0; i < 6; i++) {
            x.set(0, i, i + 1);
        }
        Due.due("copy to another", x.copy(0, 1, 3, 0, 3), 1);
        elements(x, 1, 4, 5, 6);
        Due.due("copy onwards", x.copy(0, 0, 0, 2, 4), 1);
        elements(x, 0, 1, 2, 1, 2, 3, 4);
        Due.due("copy backwards", x.copy(0, 0, 2, 1, 4), 1);
        elements(x, 0, 1, 1, 2, 3, 4, 4);
        Due.due("copy none at the ends", x.copy(0, 1, 6, 3, 0), 1);
        Due.due("copy none behind an end", x.copy(0, 1, 7, 0, 0), -5);
        Due.due("copy none behind the other end", x.copy(0, 1, 0, 4, 0), -5);
    }

    private static void elements(PaidInLeaves x, int s, long... want) {
        for (int i = 0; i < want.length; i++) {
            Due.due("element(" + s + ", " + i + ")", x.element(s, i), want[i]);
        }
    }

    private static void copyRefusals() {
        PaidInLeaves x = new PaidInLeaves();
        x.shop(0, 0, 1);
        x.row(0, 0, 4);
        x.row(1, 1, 4);
        x.row(2, 0, 2);
        x.show(3, 0);
        Due.due("copy from no shelf", x.copy(-1, 3, 0, 0, -1), -1);
        Due.due("copy to no shelf", x.copy(3, 8, 0, 0, -1), -1);
        Due.due("copy of two sorts", x.copy(0, 1, 0, 0, -1), -2);
        Due.due("copy from a shop", x.copy(3, 4, 0, 0, -1), -2);
        Due.due("copy to a shop", x.copy(4, 3, 0, 0, -1), -2);
        Due.due("copy from nothing", x.copy(4, 0, 0, 0, -1), -3);
        Due.due("copy to nothing", x.copy(0, 4, 0, 0, -1), -3);
        Due.due("copy of a size below 0", x.copy(0, 2, -1, 0, -1), -4);
        Due.due("copy from below 0", x.copy(0, 2, -1, 0, 1), -5);
        Due.due("copy to below 0", x.copy(0, 2, 0, -1, 1), -5);
        Due.due("copy beyond the first end", x.copy(2, 0, 1, 0, 2), -5);
        Due.due("copy beyond the second end", x.copy(0, 2, 0, 1, 2), -5);
        Due.due("copy of very many", x.copy(0, 2, 1, 1, Integer.MAX_VALUE), -5);
        Due.due("copy from very far", x.copy(0, 2, Integer.MAX_VALUE, 0, 1), -5);
        Due.due("copy to very far", x.copy(0, 2, 0, Integer.MAX_VALUE, 1), -5);
        Due.refused(x, 2, 3, 2, 1, 7, 0, 0);
    }

    private static void lowestBits() {
        Due.words("A ROW has a SORT (0 bytes, 1 shorts, 2 ints, 3 longs); what is put in keeps its lowest bits");
        PaidInLeaves x = new PaidInLeaves();
        for (int sort = 0; sort < 4; sort++) {
            int bits = 8 << sort;
            long most = Long.MAX_VALUE >> 64 - bits;
            x.row(sort, sort, 160);
            long[] in = {most, most + 1, -most - 1, -most - 2, -1, Long.MIN_VALUE, Long.MAX_VALUE};
            long least = -most - 1;
            long[] out = {most, least, least, most, -1, sort == 3 ? Long.MIN_VALUE : 0, sort == 3 ? Long.MAX_VALUE : -1};
            for (int i = 0; i < in.length; i++) {
                Due.due("set of sort " + sort, x.set(sort, 153 + i, in[i]), 1);
                Due.due("element of sort " + sort + " for " + in[i], x.element(sort, 153 + i), out[i]);
            }
            Due.due("the one ahead", x.element(sort, 152), 0);
        }
    }

    private static void emptyAndFullRows() {
        Due.words("0 to 160 elements, 0 at first");
        PaidInLeaves x = new PaidInLeaves();
        for (int sort = 0; sort < 4; sort++) {
            Due.due("an empty row", x.row(sort, sort, 0), 1);
            Due.due("it is one", x.holds(sort), 100 + sort);
            Due.due("no element", x.set(sort, 0, 1), -5);
            Due.due("copy none of it", x.copy(sort, sort, 0, 0, 0), 1);
            Due.due("copy one of it", x.copy(sort, sort, 0, 0, 1), -5);
            Due.due("a full row", x.row(sort, sort, 160), 1);
            Due.due("the last", x.set(sort, 159, 7), 1);
            Due.due("none behind it", x.set(sort, 160, 7), -5);
            Due.due("the first", x.set(sort, 0, 8), 1);
            Due.due("none ahead of it", x.set(sort, -1, 7), -5);
            Due.due("copy all onto itself", x.copy(sort, sort, 0, 0, 160), 1);
            Due.due("copy all but one onwards", x.copy(sort, sort, 0, 1, 159), 1);
            Due.due("the first stays", x.element(sort, 0), 8);
            Due.due("the second", x.element(sort, 1), 8);
            Due.due("the last was the last but one", x.element(sort, 159), 0);
            Due.due("copy one too many", x.copy(sort, sort, 0, 0, 161), -5);
            Due.due("a row anew", x.row(sort, sort, 160), 1);
            Due.due("0 at first", x.element(sort, 0) + x.element(sort, 1), 0);
        }
        Due.refused(x, 0, 0, 0, 0, 20, 0, 0);
    }

    private static void shelvesGiveWay() {
        Due.words("SHELVES 0 to 7 hold NOTHING (at first), a ROW, or a SHOP");
        PaidInLeaves x = new PaidInLeaves();
        x.shop(0, 0, 9);
        for (int s = 0; s < 8; s++) {
            Due.due("a row in " + s, x.row(s, 1, 5), 1);
            Due.due("set", x.set(s, 4, 9), 1);
            Due.due("a shop over it", x.show(s, 0), 1);
            Due.due("holds a shop", x.holds(s), 0);
            Due.due("no element", x.element(s, 4), 0);
            Due.due("set in a shop", x.set(s, 4, 9), -2);
            Due.due("says", x.says(s, 0), 9);
            Due.due("nothing over it", x.show(s, -1), 0);
            Due.due("holds nothing", x.holds(s), -1);
            Due.due("no element", x.element(s, 4), 0);
            Due.due("set in nothing", x.set(s, 4, 9), -3);
            Due.due("judge of nothing", x.judge(s, 1), -13);
            Due.due("nothing over nothing", x.show(s, -1), 0);
            Due.due("a row again", x.row(s, 3, 5), 1);
            Due.due("0 again", x.element(s, 4), 0);
            Due.due("nothing over a row", x.show(s, -1), 0);
            Due.due("holds nothing", x.holds(s), -1);
        }
        Due.refused(x, 0, 8, 16, 0, 0, 0, 0);
    }

    private static void shows() {
        Due.words("");
        PaidInLeaves x = new PaidInLeaves();
        Due.due("show of no shop", x.show(0, 0), -1);
        x.shop(0, 0, 1);
        x.shop(1, 0, 1);
        Due.due("show(0, 1)", x.show(0, 1), 1);
        Due.due("holds(0)", x.holds(0), 1);
        Due.due("show(0, 2)", x.show(0, 2), -1);
        Due.due("show(0, -2)", x.show(0, -2), -1);
        Due.due("show(8, 0)", x.show(8, 0), -1);
        Due.due("show(-1, -1)", x.show(-1, -1), -1);
        Due.due("holds(0) still", x.holds(0), 1);
        Due.due("show(0, NONE)", x.show(0, -1), 0);
        Due.due("holds(0) nothing", x.holds(0), -1);
        x.row(0, 2, 5);
        Due.due("show(0, 0) over a row", x.show(0, 0), 1);
        Due.due("holds(0) a shop", x.holds(0), 0);
        Due.due("row over a shop", x.row(0, 2, 5), 1);
        Due.due("holds(0) a row", x.holds(0), 102);
        Due.refused(x, 5, 0, 0, 0, 0, 0, 0);
    }

    private static void saysByKinds() {
        PaidInLeaves x = new PaidInLeaves();
        for (int kind = 0; kind < 6; kind++) {
            x.shop(kind, 3, 20 + kind);
            x.show(kind, kind);
        }
        x.child(99, 500);
        x.does(0, 11);
        x.does(0, 11);
        x.does(0, 13);
        x.minute(0);
        // the dear one sold two, the greedy one, and a minute passed in which the first shop sold a cake
        int[][] want = {
            {20, -2, -2, -2, -2, -2, -2},
            {21, 6, -2, -2, -2, -2, -2},
            {22, -2, 1, -2, -2, -2, -2},
            {23, 3, -2, 3, -2, -2, -2},
            {24, -2, -2, -2, 24, -2, -2},
            {25, -2, 1, -2, -2, 1, -2},
        };
        for (int s = 0; s < 6; s++) {
            for (int kind = 0; kind < 7; kind++) {
                Due.due("says(" + s + ", " + kind + ")", x.says(s, kind), want[s][kind]);
            }
        }
        Due.due("says of no kind", x.says(0, 7), -1);
        Due.due("says of no kind below", x.says(0, -1), -1);
        Due.due("says of no shelf", x.says(8, 0), -1);
        Due.due("says of nothing", x.says(6, 0), -3);
        Due.due("says of nothing and no kind", x.says(6, 7), -1);
        x.row(6, 0, 1);
        Due.due("says of a row", x.says(6, 0), -2);
        Due.refused(x, 4, 30, 1, 0, 0, 0, 0);
        saysOfFine();
    }

    private static void saysOfFine() {
        PaidInLeaves x = new PaidInLeaves();
        x.shop(6, 2, 999);
        x.shop(3, 9, 999);
        x.child(1, 9999);
        x.show(0, 0);
        x.show(1, 1);
        x.tell(0, 2, 9999);
        x.does(0, 10);
        Due.due("FINE as FINE", x.says(0, 6), 1001);
        Due.due("FINE as STAMPED", x.says(0, 4), 1001);
        Due.due("FINE as SHOP", x.says(0, 0), 999);
        Due.due("FINE as DEAR", x.says(0, 1), -2);
        for (int i = 0; i < 32; i++) {
            x.tell(0, 1, 9999);
            Due.due("buys", x.does(0, 11), 1);
        }
        // 999 + 9 * 32 * 32 is above 9999
        Due.due("the difference is by what is asked as limited", x.says(1, 1), 9000);
        Due.due("and as GREEDY", x.says(1, 3), 9000);
    }
}
