/** Promises 34 to 40: keep, row, put, element, copy, cost, toss. */
public final class ShelvesTest {

    private static final Check check = new Check("ShelvesTest");

    public static void main(String[] args) {
        keepsGlassesAndNothing();
        makesRows();
        putsLowestBits();
        tellsElements();
        copies();
        costs();
        tosses();
        check.end();
    }

    private static void keepsGlassesAndNothing() {
        WhoseGlass x = new WhoseGlass();
        for (int d = 0; d < 8; d++) {
            check.due("cost of an empty shelf " + d, x.cost(d), -11);
        }
        check.due("keep(-1, 0, 0, 0)", x.keep(-1, 0, 0, 0), -1);
        check.due("keep(8, 0, 0, 0)", x.keep(8, 0, 0, 0), -1);
        check.due("keep(0, -1, 0, 0)", x.keep(0, -1, 0, 0), -1);
        check.due("keep(0, 2, 0, 0)", x.keep(0, 2, 0, 0), -1);
        check.due("keep(0, 1, -1, 0)", x.keep(0, 1, -1, 0), -1);
        check.due("keep(0, 1, 8, 0)", x.keep(0, 1, 8, 0), -1);
        check.due("keep(0, 1, 0, -1)", x.keep(0, 1, 0, -1), -1);
        check.due("keep(0, 1, 0, 10)", x.keep(0, 1, 0, 10), -1);
        check.due("cost behind refusals", x.cost(0), -11);
        check.due("keep(0, 1, 7, 9)", x.keep(0, 1, 7, 9), 0);
        check.due("keep refused over a glass", x.keep(0, 1, 8, 0), -1);
        check.due("cost, the glass is still there", x.cost(0), 40);
        check.due("keep(0, 0, 99, -5): the others do not matter", x.keep(0, 0, 99, -5), 0);
        check.due("cost behind keep 0", x.cost(0), -11);
        x.row(3, 0, 2);
        check.due("keep over a row", x.keep(3, 1, 0, 1), 0);
        check.due("cost of it", x.cost(3), 2);
        check.due("put into what was a row", x.put(3, 0, 1), -12);
    }

    private static void makesRows() {
        WhoseGlass x = new WhoseGlass();
        check.due("row(-1, 0, 1)", x.row(-1, 0, 1), -1);
        check.due("row(8, 0, 1)", x.row(8, 0, 1), -1);
        check.due("row(0, -1, 1)", x.row(0, -1, 1), -1);
        check.due("row(0, 3, 1)", x.row(0, 3, 1), -1);
        check.due("row(0, 0, 101)", x.row(0, 0, 101), -1);
        check.due("row(0, 0, -1)", x.row(0, 0, -1), -14);
        check.due("row(0, 0, least)", x.row(0, 0, Integer.MIN_VALUE), -14);
        check.due("row(8, 0, -1)", x.row(8, 0, -1), -1);
        check.due("row(0, 3, -1)", x.row(0, 3, -1), -1);
        check.due("put: no row has come", x.put(0, 0, 1), -11);
        check.due("row(0, 2, 100)", x.row(0, 2, 100), 0);
        check.due("put(0, 99, 5)", x.put(0, 99, 5), 0);
        check.due("put(0, 100, 5)", x.put(0, 100, 5), -13);
        check.due("row refused", x.row(0, 0, -1), -14);
        check.due("element 99 stays", x.element(0, 99), 5);
        check.due("row(0, 2, 100) anew", x.row(0, 2, 100), 0);
        check.due("element 99 is 0 at first", x.element(0, 99), 0);
        x.put(0, 0, 7);
        x.row(0, 1, 1);
        check.due("element 0 is 0 at first", x.element(0, 0), 0);
        check.due("row(0, 1, 0)", x.row(0, 1, 0), 0);
        check.due("put into none", x.put(0, 0, 1), -13);
    }

    private static void putsLowestBits() {
        WhoseGlass x = new WhoseGlass();
        int[] values = {0, 127, 128, 255, 256, -1, -129, 32767, 32768, 65536, -32769,
            Integer.MAX_VALUE, Integer.MIN_VALUE};
        for (int sort = 0; sort < 3; sort++) {
            x.row(sort, sort, 3);
            for (int v : values) {
                long want = sort == 0 ? (byte) v : sort == 1 ? (short) v : v;
                check.due("put " + v, x.put(sort, 1, v), 0);
                check.due("element of sort " + sort, x.element(sort, 1), want);
            }
            check.due("its neighbour", x.element(sort, 0) + x.element(sort, 2), 0);
        }
        check.due("put(-1, 0, 0)", x.put(-1, 0, 0), -1);
        check.due("put(8, 0, 0)", x.put(8, 0, 0), -1);
        check.due("put(7, 0, 0)", x.put(7, 0, 0), -11);
        x.keep(7, 1, 0, 0);
        check.due("put(7, 0, 0) on a glass", x.put(7, 0, 0), -12);
        check.due("put(0, -1, 0)", x.put(0, -1, 0), -13);
        check.due("put(0, 3, 0)", x.put(0, 3, 0), -13);
        check.due("put(0, most, 0)", x.put(0, Integer.MAX_VALUE, 0), -13);
    }

    private static void tellsElements() {
        WhoseGlass x = new WhoseGlass();
        x.row(1, 0, 2);
        x.keep(2, 1, 0, 0);
        check.due("element(-1, 0)", thrown(x, -1, 0), 1);
        check.due("element(8, 0)", thrown(x, 8, 0), 1);
        check.due("element(8, -1)", thrown(x, 8, -1), 1);
        check.due("element(0, 0), nothing there", thrown(x, 0, 0), 2);
        check.due("element(2, 0), a glass", thrown(x, 2, 0), 2);
        check.due("element(1, -1)", thrown(x, 1, -1), 2);
        check.due("element(1, 2)", thrown(x, 1, 2), 2);
        check.due("element(1, 1)", thrown(x, 1, 1), 0);
    }

    /** 0 nothing is thrown, 1 IllegalArgumentException, 2 IllegalStateException. */
    private static int thrown(WhoseGlass x, int d, int i) {
        try {
            x.element(d, i);
            return 0;
        } catch (IllegalArgumentException e) {
            return e.getClass() == IllegalArgumentException.class ? 1 : 3;
        } catch (IllegalStateException e) {
            return e.getClass() == IllegalStateException.class ? 2 : 4;
        }
    }

    private static void copies() {
        WhoseGlass x = new WhoseGlass();
        Houses.numbers(x, 0, 1, 1, 2, 3, 4, 5);
        x.row(1, 1, 3);
        check.due("copy(0, 2, 1, 0, 3)", x.copy(0, 2, 1, 0, 3), 3);
        check.due("elements of shelf 1", 100 * x.element(1, 0) + 10 * x.element(1, 1) + x.element(1, 2), 345);
        check.due("the one that is read stays", x.element(0, 2), 3);
        check.due("copy onto itself forth", x.copy(0, 0, 0, 1, 4), 4);
        check.due("1 1 2 3 4", digits(x, 0, 5), 11234);
        check.due("copy onto itself back", x.copy(0, 1, 0, 0, 4), 4);
        check.due("1 2 3 4 4", digits(x, 0, 5), 12344);
        check.due("copy of none at the ends", x.copy(0, 5, 1, 3, 0), 0);
        check.due("copy of none behind an end", x.copy(0, 6, 1, 0, 0), -13);
        check.due("copy of none to behind an end", x.copy(0, 0, 1, 4, 0), -13);
        check.due("copy of less than none", x.copy(0, 0, 1, 0, -1), -13);
        check.due("copy from -1", x.copy(0, -1, 1, 0, 1), -13);
        check.due("copy to -1", x.copy(0, 0, 1, -1, 1), -13);
        check.due("copy of too many", x.copy(0, 3, 1, 0, 3), -13);
        check.due("copy of too many there", x.copy(0, 0, 1, 1, 3), -13);
        check.due("copy of the most", x.copy(0, 1, 1, 1, Integer.MAX_VALUE), -13);
        check.due("copy from the most", x.copy(0, Integer.MAX_VALUE, 1, 1, 1), -13);
        check.due("shelf 1 is as it was", digits(x, 1, 3), 345);
        check.due("copy(-1, ..)", x.copy(-1, 0, 1, 0, 1), -1);
        check.due("copy(.., 8, ..)", x.copy(0, 0, 8, 0, 1), -1);
        check.due("copy from nothing", x.copy(6, 0, 1, 0, 1), -11);
        check.due("copy to nothing", x.copy(0, 0, 6, 0, 1), -11);
        x.keep(5, 1, 0, 0);
        check.due("copy from a glass", x.copy(5, 0, 1, 0, 1), -12);
        check.due("copy to a glass", x.copy(0, 0, 5, 0, 1), -12);
        check.due("copy from a glass to nothing", x.copy(5, 0, 6, 0, 1), -11);
        check.due("copy from a glass to a glass", x.copy(5, 0, 5, 0, 0), -12);
        x.row(3, 0, 3);
        check.due("copy from a glass to bytes", x.copy(5, 0, 3, 0, 1), -12);
        check.due("copy from bytes to a glass", x.copy(3, 0, 5, 0, 1), -12);
        x.row(4, 2, 3);
        check.due("copy to another sort", x.copy(0, 0, 4, 0, 1), -12);
        check.due("copy to another sort, no place", x.copy(0, 9, 4, 0, 1), -12);
    }

    private static long digits(WhoseGlass x, int d, int n) {
        long all = 0;
        for (int i = 0; i < n; i++) {
            all = 10 * all + x.element(d, i);
        }
        return all;
    }

    private static void costs() {
        WhoseGlass x = new WhoseGlass();
        int[][] want = {{2, 2, 2}, {2, 3, 9}, {3, 3, 3}, {4, 4, 4}, {6, 6, 6}, {11, 12, 18}, {3, 3, 3}, {4, 8, 32}};
        int[] figures = {0, 1, 7};
        for (int kind = 0; kind < 8; kind++) {
            for (int i = 0; i < 3; i++) {
                x.keep(kind, 1, kind, figures[i]);
                check.due("cost of kind " + kind + ", figure " + figures[i], x.cost(kind), want[kind][i]);
            }
        }
        check.due("cost(-1)", x.cost(-1), -1);
        check.due("cost(8)", x.cost(8), -1);
        x.keep(0, 0, 0, 0);
        check.due("cost of nothing", x.cost(0), -11);
        x.row(0, 0, 1);
        check.due("cost of a row", x.cost(0), -12);
    }

    private static void tosses() {
        WhoseGlass x = new WhoseGlass();
        int[] want = {3, 3, 3, 103, -15, 214, 3, 3};
        for (int kind = 0; kind < 8; kind++) {
            x.keep(1, 1, kind, 3);
            check.due("toss of kind " + kind + ", figure 3", x.toss(1), want[kind]);
            check.due("it stays there", x.toss(1), want[kind]);
            x.keep(1, 1, kind, 0);
            check.due("toss of kind " + kind + ", figure 0", x.toss(1), -15);
        }
        check.due("toss(-1)", x.toss(-1), -1);
        check.due("toss(8)", x.toss(8), -1);
        check.due("toss of nothing", x.toss(0), -11);
        x.row(0, 0, 1);
        check.due("toss of a row", x.toss(0), -12);
    }
}
