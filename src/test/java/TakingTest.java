/** Promises 13 to 17: like, mine, likely, idle, oldest. */
public final class TakingTest {

    private static final Check check = new Check("TakingTest");

    public static void main(String[] args) {
        likesByKinds();
        likesOthersOfAKind();
        tellsMine();
        tellsLikely();
        countsIdle();
        tellsOldest();
        check.end();
    }

    private static void likesByKinds() {
        StringBuilder house = new StringBuilder();
        for (int kind = 0; kind < 8; kind++) {
            house.append('g').append(kind).append("190;");
        }
        WhoseGlass x = Houses.of(house.toString());
        int[][] alike = {
            {3, 3, 3, 3, 3, 3, 3, 3},
            {0, 20, 0, 0, 0, 0, 0, 0},
            {3, 3, 6, 3, 6, 3, 3, 3},
            {3, 3, 3, 7, 3, 3, 7, 7},
            {3, 3, 6, 3, 7, 3, 3, 3},
            {0, 0, 0, 0, 0, 20, 0, 0},
            {3, 3, 3, 7, 3, 3, 14, 7},
            {3, 3, 3, 7, 3, 3, 7, 7}};
        for (int a = 0; a < 8; a++) {
            for (int b = 0; b < 8; b++) {
                check.due("like of kinds " + a + " " + b, x.like(a, b), alike[a][b]);
            }
        }
        check.due("like(-1, 0)", x.like(-1, 0), -1);
        check.due("like(0, -1)", x.like(0, -1), -1);
        check.due("like(8, 0)", x.like(8, 0), -1);
        check.due("like(0, 8)", x.like(0, 8), -1);
    }

    private static void likesOthersOfAKind() {
        int[] want = {1, 0, 4, 5, 5, 5, 5, 5};
        int[] same = {3, 0, 6, 7, 7, 5, 7, 7};
        for (int kind = 0; kind < 8; kind++) {
            WhoseGlass x = Houses.of("g" + kind + "190;g" + kind + "290;g" + kind + "190;g" + kind + "100;");
            check.due("like of kind " + kind + " to one of another figure", x.like(0, 1), want[kind]);
            check.due("like of kind " + kind + " to one of its figure", x.like(0, 2), same[kind]);
            check.due("like of kind " + kind + " to an empty one", x.like(0, 3), kind == 7 ? 0 : same[kind]);
            x.keep(0, 1, kind, 1);
            int come = x.comes(0, 4);
            x.clear(4, 0);
            check.due("like of kind " + kind + " to one in the sink", x.like(0, come), kind == 7 ? 0 : same[kind]);
        }
        WhoseGlass poured = Houses.of("g7100;g7190;");
        check.due("an empty poured one to itself", poured.like(0, 0), 0);
        check.due("an empty poured one to another", poured.like(0, 1), 7);
    }

    private static void tellsMine() {
        WhoseGlass x = Houses.of("g0290;g0390;g0391;p11000;p11020;p11000;h000;h101;");
        check.due("its own is in its hand", x.mine(0), -4);
        x.lay(1);
        check.due("as if it held none", x.mine(0), 1);
        check.due("it holds it still", x.guest(0, 5), 0);
        check.due("its own", x.mine(1), 1);
        check.due("no own one: the tray", x.mine(2), -4);
        x.lay(0);
        check.due("its own is laid", x.mine(0), 0);
        x.go(1, 1);
        check.due("at its place", x.mine(1), 2);
        x.go(1, 5);
        check.due("nothing there", x.mine(1), -4);
        x.clear(0, 0);
        x.go(1, 1);
        check.due("its own is in the sink", x.mine(1), -4);
        check.due("mine(-1)", x.mine(-1), -1);
        check.due("mine(3)", x.mine(3), -1);
    }

    private static void tellsLikely() {
        WhoseGlass x = Houses.of("g2290;g2290;g0290;g4390;g0391;p11000;p11000;h000;");
        // A tall one's: 6 to a tall one, 3 to a glass of its figure, 4 to one with water.
        int[][] want = {{6, 13}, {3, 13}, {4, 13}};
        for (int i = 0; i < 3; i++) {
            for (int part = 0; part < 2; part++) {
                check.due("likely(0, " + (i + 1) + ", " + part + ")", x.likely(0, i + 1, part), want[i][part]);
            }
        }
        check.due("not laid there", x.likely(0, 4, 0), -3);
        check.due("held", x.likely(0, 0, 0), -3);
        check.due("no own one", x.likely(1, 1, 0), -3);
        check.due("likely(-1, 1, 0)", x.likely(-1, 1, 0), -1);
        check.due("likely(2, 1, 0)", x.likely(2, 1, 0), -1);
        check.due("likely(0, -1, 0)", x.likely(0, -1, 0), -1);
        check.due("likely(0, 5, 0)", x.likely(0, 5, 0), -1);
        check.due("likely(0, 1, -1)", x.likely(0, 1, -1), -1);
        check.due("likely(0, 1, 2)", x.likely(0, 1, 2), -1);
        check.due("likely(1, 5, 0), not there goes ahead of no own one", x.likely(1, 5, 0), -1);
        x.lay(0);
        check.due("least terms", x.likely(0, 0, 0), 6);
        check.due("least terms, below", x.likely(0, 0, 1), 19);

        WhoseGlass four = Houses.of("g0290;g0290;g0290;p11000;h000;");
        check.due("3 of 6 above", four.likely(0, 1, 0), 1);
        check.due("3 of 6 below", four.likely(0, 1, 1), 2);
        WhoseGlass half = Houses.of("g2290;g2290;g4390;p11000;h000;");
        check.due("6 of 10 above", half.likely(0, 1, 0), 3);
        check.due("6 of 10 below", half.likely(0, 1, 1), 5);
        WhoseGlass marked = Houses.of("g1290;g0290;p11000;h000;");
        check.due("all are 0, above", marked.likely(0, 1, 0), 0);
        check.due("all are 0, below", marked.likely(0, 1, 1), 1);
        marked.lay(0);
        check.due("0 of 20 above", marked.likely(0, 1, 0), 0);
        check.due("0 of 20 below", marked.likely(0, 1, 1), 1);
        check.due("20 of 20 above", marked.likely(0, 0, 0), 1);
        check.due("20 of 20 below", marked.likely(0, 0, 1), 1);
    }

    private static void countsIdle() {
        WhoseGlass x = Houses.of("g0290;g0290;g0291;g0290;p11000;p11000;h000;");
        check.due("idle(0)", x.idle(0), 2);
        check.due("idle(1)", x.idle(1), 1);
        check.due("idle(5)", x.idle(5), 0);
        x.lay(0);
        check.due("an own one is not idle", x.idle(0), 2);
        Houses.read(x, "h100;");
        x.lay(1);
        check.due("of two guests", x.idle(0), 2);
        check.due("idle(-1)", x.idle(-1), -1);
        check.due("idle(6)", x.idle(6), -1);
    }

    private static void tellsOldest() {
        WhoseGlass x = Houses.of("g0291;m;g0290;g0290;p99000;h001;m;");
        check.due("oldest(0)", x.oldest(0), 2);
        check.due("oldest(1)", x.oldest(1), 0);
        check.due("oldest(2)", x.oldest(2), -4);
        x.lay(0);
        check.due("laid anew", x.oldest(0), 2);
        Houses.read(x, "g0290;");
        x.clear(0, 1);
        check.due("the least of several", x.oldest(0), 1);
        check.due("oldest(-1)", x.oldest(-1), -1);
        check.due("oldest(6)", x.oldest(6), -1);
    }
}
