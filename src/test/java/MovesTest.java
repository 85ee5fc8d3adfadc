/** Promises 42 and 43: moves of shops and their trace. */
public final class MovesTest {
    public static void main(String[] args) {
        allKinds();
        wrapping();
        lazyShutsByEachBit();
        noMove();
        actChangesNothing();
        Due.end();
    }

    /** Shops of each kind: number m, a k; what each move answers was worked out by hand from the bodies. */
    private static void allKinds() {
        // m and x are the same for all: m = 1, k = 3, x = 10
        moves(0, 11, new int[] {10}, 22, new int[] {11, 10}, 22 ^ 8, new int[] {12, 11, 10, 10});
        moves(1, 14, new int[] {20, 10}, 28, new int[] {11, 20, 10}, 28 ^ 11, new int[] {12, 11, 20, 10, 20, 10});
        moves(2, 11, new int[] {10}, 66, new int[] {30, 11, 10}, 66 ^ 8, new int[] {12, 30, 11, 10, 10});
        moves(3, 14, new int[] {20, 10}, 30, new int[] {40, 11, 20, 10}, 30 ^ 11,
            new int[] {12, 40, 11, 20, 10, 20, 10});
        moves(4, 10, new int[] {51, 10}, 20, new int[] {11, 51, 10}, -(20 ^ 7),
            new int[] {50, 12, 11, 51, 10, 51, 10});
        moves(5, 11, new int[] {10}, 66, new int[] {30, 11, 10}, 66 ^ 8 ^ 5, new int[] {60, 12, 30, 11, 10, 10});
        moves(6, 20, new int[] {70, 51, 10}, 28, new int[] {71, 11, 70, 51, 10}, -(28 ^ 14),
            new int[] {50, 12, 71, 11, 70, 51, 10, 70, 51, 10});
    }

    private static void moves(int kind, int asks, int[] asksTrace, int sells, int[] sellsTrace, int shuts, int[] shutsTrace) {
        PaidInLeaves x = new PaidInLeaves();
        x.shop(0, 0, 1);
        x.shop(kind, 3, 7);
        Due.due("kind " + kind + " asks", x.act(1, 0, 10), asks);
        traced(x, asksTrace);
        Due.due("kind " + kind + " sells", x.act(1, 1, 10), sells);
        traced(x, sellsTrace);
        Due.due("kind " + kind + " shuts", x.act(1, 2, 10), shuts);
        traced(x, shutsTrace);
    }

    private static void traced(PaidInLeaves x, int... bodies) {
        for (int i = 0; i < 21; i++) {
            Due.due("trace(" + i + ")", x.trace(i), i < bodies.length ? bodies[i] : -1);
        }
        Due.due("trace(-1)", x.trace(-1), -1);
        Due.due("trace(MAX)", x.trace(Integer.MAX_VALUE), -1);
        Due.due("bodies that ran", x.status(8), bodies.length);
    }

    private static void wrapping() {
        PaidInLeaves x = new PaidInLeaves();
        x.shop(3, 9, 1);
        x.shop(1, 9, 1);
        Due.due("asks MAX", x.act(1, 0, Integer.MAX_VALUE), Integer.MAX_VALUE + 10);
        Due.due("sells MAX", x.act(0, 1, Integer.MAX_VALUE), (Integer.MIN_VALUE + 9) * 2);
        Due.due("shuts MIN", x.act(0, 2, Integer.MIN_VALUE), ((Integer.MIN_VALUE + 10) * 2) ^ Integer.MIN_VALUE);
    }

    /** 60: super.shuts(x) ^ 5, whatever the two bits were. */
    private static void lazyShutsByEachBit() {
        PaidInLeaves x = new PaidInLeaves();
        x.shop(5, 0, 1);
        for (int v : new int[] {0, 1, 2, 3, 4, 5, 6, 7, -1, -5, Integer.MAX_VALUE, Integer.MIN_VALUE}) {
            Due.due("shuts " + v, x.act(0, 2, v), v * 6 ^ v ^ 5);
        }
    }

    /** A move tells; it sells no cake. */
    private static void actChangesNothing() {
        PaidInLeaves x = new PaidInLeaves();
        Due.due("without shops", x.act(0, 0, 1), 0);
        x.shop(1, 4, 7);
        for (int move = 0; move < 3; move++) {
            x.act(0, move, 99);
        }
        Due.due("sold", x.shopOf(0, 3), 0);
        Due.due("asks", x.shopOf(0, 5), 7);
        Due.due("deals", x.status(6), 0);
        Due.due("till", x.status(3), 0);
    }

    private static void noMove() {
        PaidInLeaves x = new PaidInLeaves();
        x.shop(0, 0, 1);
        int[][] none = {{1, 0}, {-1, 0}, {0, 3}, {0, -1}, {6, 0}, {1, 3}, {Integer.MIN_VALUE, 1}, {Integer.MAX_VALUE, 1},
            {0, Integer.MIN_VALUE}, {0, Integer.MAX_VALUE}};
        for (int[] one : none) {
            x.act(0, 1, 5);
            Due.due("no such shop or move", x.act(one[0], one[1], 5), 0);
            traced(x);
        }
        Due.refused(x, 0, 0, 0, 0, 0, 0, 0);
    }
}
