/** Shelves, rows, their refusals and COST of terms 1; promises 34 to 40. */
final class ShelvesSentences {

    private static final int LEAST = Integer.MIN_VALUE;
    private static final int MOST = Integer.MAX_VALUE;
    private static final int[] NO_SHELVES = {LEAST, -1, 8, MOST};

    private final Sentences doc;

    ShelvesSentences(Sentences doc) {
        this.doc = doc;
    }

    void tell() {
        costs();
        shelves();
        rows();
        lowestBits();
        refusals();
        keeps();
        makesRows();
        puts();
        elements();
        elementsRefused();
        copies();
        copiesRefused();
        costOfShelves();
        tosses();
        tossesRefused();
    }

    /** COST of a kind with figures 0, 1 and 9. */
    private void costsAre(int kind, int... want) {
        int[] figures = {0, 1, 9};
        WhoseGlass x = new WhoseGlass();
        for (int i = 0; i < figures.length; i++) {
            x.keep(i, 1, kind, figures[i]);
            doc.due("cost of kind " + kind + ", figure " + figures[i], x.cost(i), want[i]);
        }
    }

    private void costs() {
        doc.says("COST of a GLASS: GLASS 2;");
        costsAre(0, 2, 2, 2);
        doc.says("MARKED a GLASS's and FIGURE;");
        costsAre(1, 2, 3, 11);
        doc.says("TALL a GLASS's and 1;");
        costsAre(2, 3, 3, 3);
        doc.says("RED a GLASS's times 2;");
        costsAre(3, 4, 4, 4);
        doc.says("WATER a TALL's and 3;");
        costsAre(4, 6, 6, 6);
        doc.says("OWL a MARKED's and 9;");
        costsAre(5, 11, 12, 20);
        doc.says("CHIPPED a RED's less 1;");
        costsAre(6, 3, 3, 3);
        doc.says("POURED a RED's times (FIGURE and 1).");
        costsAre(7, 4, 8, 40);
    }

    private void shelves() {
        doc.says("SHELVES 0 .. 7 each hold nothing (at first), a GLASS, a ROW.");
        WhoseGlass x = new WhoseGlass();
        for (int d = 0; d < 8; d++) {
            doc.due("nothing on shelf " + d, x.cost(d), -11);
            x.keep(d, 1, 1, d);
        }
        for (int d = 0; d < 8; d++) {
            doc.due("a glass on shelf " + d, x.cost(d), 2 + d);
            x.row(d, 2, 1);
            x.put(d, 0, d);
        }
        for (int d = 0; d < 8; d++) {
            doc.due("a row on shelf " + d, x.element(d, 0), d);
            doc.due("no glass there", x.cost(d), -12);
            x.keep(d, 0, 0, 0);
            doc.due("nothing again", x.cost(d), -11);
        }
        doc.due("shelf -1", x.cost(-1), -1);
        doc.due("shelf 8", x.cost(8), -1);
    }

    private void rows() {
        doc.says("A ROW has a SORT (0 bytes, 1 shorts, 2 ints) and 0 .. 100 elements, 0 at first;");
        WhoseGlass x = new WhoseGlass();
        long[] kept = {-1, 32767, 98303};
        for (int sort = 0; sort < 3; sort++) {
            doc.due("no elements", x.row(sort, sort, 0), 0);
            doc.due("put into none", x.put(sort, 0, 1), -13);
            doc.due("a hundred", x.row(sort, sort, 100), 0);
            doc.due("0 at first", x.element(sort, 0) + x.element(sort, 50) + x.element(sort, 99), 0);
            doc.due("put at the last", x.put(sort, 99, sort == 2 ? 98303 : 32767), 0);
            doc.due("kept by sort " + sort, x.element(sort, 99), kept[sort]);
            doc.due("put behind it", x.put(sort, 100, 1), -13);
            x.put(sort, 0, 5);
            doc.due("a hundred anew", x.row(sort, sort, 100), 0);
            doc.due("0 at first again", x.element(sort, 0) + x.element(sort, 99), 0);
        }
        doc.due("sort -1", x.row(0, -1, 1), -1);
        doc.due("sort 3", x.row(0, 3, 1), -1);
        doc.due("101 elements", x.row(0, 0, 101), -1);
    }

    private void lowestBits() {
        doc.says("what is put in keeps its lowest bits.");
        int[] values = {127, 128, 255, 256, -128, -129, 32767, 32768, 65535, 65536, -32768, -32769, MOST, LEAST};
        int[] bytes = {127, -128, -1, 0, -128, 127, -1, 0, -1, 0, 0, -1, -1, 0};
        int[] shorts = {127, 128, 255, 256, -128, -129, 32767, -32768, -1, 0, -32768, 32767, -1, 0};
        WhoseGlass x = new WhoseGlass();
        for (int sort = 0; sort < 3; sort++) {
            x.row(sort, sort, 3);
        }
        for (int k = 0; k < values.length; k++) {
            for (int sort = 0; sort < 3; sort++) {
                x.put(sort, 1, values[k]);
                int want = sort == 0 ? bytes[k] : sort == 1 ? shorts[k] : values[k];
                doc.due(values[k] + " in a row of sort " + sort, x.element(sort, 1), want);
                doc.due("its neighbours", x.element(sort, 0) + x.element(sort, 2), 0);
            }
        }
    }

    private void refusals() {
        WhoseGlass x = Houses.of("g0190;");
        x.keep(0, 1, 0, 3);
        x.row(1, 2, 2);
        doc.says("Their REFUSALS: -11 nothing is held where something is wanted;");
        int[] empty = {x.house(5), x.comes(5, 0), x.judge(0, 5), x.put(5, 0, 0), x.copy(5, 0, 1, 0, 1),
            x.copy(1, 0, 5, 0, 1), x.cost(5), x.toss(5)};
        for (int i = 0; i < empty.length; i++) {
            doc.due("call " + i + " on an empty shelf", empty[i], -11);
        }
        doc.says("-12 it is of another kind;");
        int[] other = {x.house(0), x.house(1), x.comes(1, 0), x.judge(0, 0), x.put(0, 0, 0), x.copy(0, 0, 1, 0, 1),
            x.copy(1, 0, 0, 0, 1), x.cost(1), x.toss(1)};
        for (int i = 0; i < other.length; i++) {
            doc.due("call " + i + " on a shelf of another kind", other[i], -12);
        }
        doc.says("-13 a place that isn't there (a number or a size that isn't as told, too);");
        int[] places = {x.put(1, -1, 0), x.put(1, 2, 0), x.copy(1, -1, 1, 0, 1), x.copy(1, 2, 1, 0, 1),
            x.copy(1, 0, 1, -1, 1), x.copy(1, 0, 1, 2, 1), x.copy(1, 0, 1, 0, 3), x.copy(1, 0, 1, 0, -1)};
        for (int i = 0; i < places.length; i++) {
            doc.due("call " + i + " of no such place", places[i], -13);
        }
        doc.says("-14 a size below 0;");
        doc.due("row(1, 2, -1)", x.row(1, 2, -1), -14);
        doc.due("row(1, 2, least)", x.row(1, 2, LEAST), -14);
        doc.due("row(1, 2, 0)", x.row(1, 2, 0), 0);
        doc.says("-15 a FAILURE that is none.");
        doc.due("toss of figure 3", x.toss(0), 3);
        x.keep(0, 1, 0, 0);
        doc.due("toss of figure 0", x.toss(0), -15);
    }

    private void keeps() {
        WhoseGlass x = new WhoseGlass();
        doc.promises(34, "SHELF d gets: what = 0 nothing (the others do not matter);");
        int[] any = {LEAST, -1, 0, 8, 10, MOST};
        for (int k : any) {
            x.keep(7, 1, 0, 1);
            doc.due("keep(7, 0, " + k + ", " + k + ")", x.keep(7, 0, k, k), 0);
            doc.due("nothing there", x.cost(7), -11);
        }
        doc.promises(34, "1 a GLASS of KIND k with a FIGURE: 0.");
        for (int d = 0; d < 8; d += 7) {
            doc.due("keep(" + d + ", 1, 0, 0)", x.keep(d, 1, 0, 0), 0);
            doc.due("its cost", x.cost(d), 2);
            doc.due("keep(" + d + ", 1, 7, 9)", x.keep(d, 1, 7, 9), 0);
            doc.due("its cost then", x.cost(d), 40);
        }
        doc.due("over a row", x.row(3, 0, 2) + x.keep(3, 1, 1, 1), 0);
        doc.due("its cost, too", x.cost(3), 3);
        doc.promises(34, "-1.");
        for (int d : NO_SHELVES) {
            doc.due("keep(" + d + ", 0, 0, 0)", x.keep(d, 0, 0, 0), -1);
            doc.due("keep(" + d + ", 1, 0, 0)", x.keep(d, 1, 0, 0), -1);
        }
        int[] whats = {LEAST, -1, 2, MOST};
        for (int what : whats) {
            doc.due("keep(0, " + what + ", 0, 0)", x.keep(0, what, 0, 0), -1);
        }
        int[] kinds = {LEAST, -1, 8, MOST};
        for (int k : kinds) {
            doc.due("keep(0, 1, " + k + ", 0)", x.keep(0, 1, k, 0), -1);
        }
        int[] figures = {LEAST, -1, 10, MOST};
        for (int figure : figures) {
            doc.due("keep(0, 1, 0, " + figure + ")", x.keep(0, 1, 0, figure), -1);
        }
        doc.due("what it held is there", x.cost(0), 40);
    }

    private void makesRows() {
        doc.promises(35, "SHELF d gets a ROW of a SORT: 0.");
        WhoseGlass x = new WhoseGlass();
        for (int d = 0; d < 8; d += 7) {
            for (int sort = 0; sort < 3; sort++) {
                doc.due("row(" + d + ", " + sort + ", 2)", x.row(d, sort, 2), 0);
                doc.due("put(" + d + ", 1, 70000)", x.put(d, 1, 70000), 0);
                doc.due("what is kept", x.element(d, 1), sort == 0 ? 112 : sort == 1 ? 4464 : 70000);
            }
        }
        doc.due("over a glass", x.keep(1, 1, 0, 0) + x.row(1, 0, 1), 0);
        doc.due("no glass there", x.cost(1), -12);
        doc.promises(35, "-1 (n above 100);");
        for (int d : NO_SHELVES) {
            doc.due("row(" + d + ", 0, 1)", x.row(d, 0, 1), -1);
        }
        int[] sorts = {LEAST, -1, 3, MOST};
        for (int sort : sorts) {
            doc.due("row(0, " + sort + ", 1)", x.row(0, sort, 1), -1);
        }
        doc.due("row(0, 0, 101)", x.row(0, 0, 101), -1);
        doc.due("row(0, 0, most)", x.row(0, 0, MOST), -1);
        doc.due("row(0, 0, 100)", x.row(0, 0, 100), 0);
        doc.promises(35, "-14.");
        doc.due("row(0, 0, -1)", x.row(0, 0, -1), -14);
        doc.due("row(0, 0, least)", x.row(0, 0, LEAST), -14);
        doc.due("row(0, 0, 0)", x.row(0, 0, 0), 0);
    }

    private void puts() {
        doc.promises(36, "Element i of the ROW becomes v: 0.");
        WhoseGlass x = new WhoseGlass();
        x.row(0, 2, 3);
        for (int i = 0; i < 3; i++) {
            doc.due("put(0, " + i + ", v)", x.put(0, i, 1000 + i), 0);
        }
        for (int i = 0; i < 3; i++) {
            doc.due("element(0, " + i + ")", x.element(0, i), 1000 + i);
        }
        doc.due("put over it", x.put(0, 1, -7), 0);
        doc.due("element(0, 1)", x.element(0, 1), -7);
        doc.promises(36, "-1, -11, -12, -13.");
        for (int d : NO_SHELVES) {
            doc.due("put(" + d + ", 0, 0)", x.put(d, 0, 0), -1);
        }
        doc.due("nothing there", x.put(7, 0, 0), -11);
        x.keep(7, 1, 0, 0);
        doc.due("a glass there", x.put(7, 0, 0), -12);
        int[] places = {LEAST, -1, 3, 99, 100, MOST};
        for (int i : places) {
            doc.due("put(0, " + i + ", 0)", x.put(0, i, 0), -13);
        }
    }

    /** 0 nothing is thrown, 1 IllegalArgumentException, 2 IllegalStateException, 3 one of another class under them. */
    private static int thrown(WhoseGlass x, int d, int i) {
        try {
            x.element(d, i);
            return 0;
        } catch (IllegalArgumentException e) {
            return e.getClass() == IllegalArgumentException.class ? 1 : 3;
        } catch (IllegalStateException e) {
            return e.getClass() == IllegalStateException.class ? 2 : 3;
        }
    }

    private void elements() {
        doc.promises(37, "Element i of the ROW.");
        WhoseGlass x = new WhoseGlass();
        Houses.numbers(x, 0, 0, -128, 0, 127);
        Houses.numbers(x, 7, 2, LEAST, -1, MOST);
        long[] bytes = {-128, 0, 127};
        long[] ints = {LEAST, -1, MOST};
        for (int i = 0; i < 3; i++) {
            doc.due("element(0, " + i + ")", x.element(0, i), bytes[i]);
            doc.due("element(7, " + i + ")", x.element(7, i), ints[i]);
        }
        doc.due("once more", x.element(7, 0), LEAST);
    }

    private void elementsRefused() {
        WhoseGlass x = new WhoseGlass();
        x.row(1, 0, 2);
        x.row(3, 1, 0);
        x.keep(2, 1, 0, 0);
        doc.promises(37, "IllegalArgumentException: no such SHELF;");
        for (int d : NO_SHELVES) {
            doc.due("element(" + d + ", 0)", thrown(x, d, 0), 1);
            doc.due("element(" + d + ", -1)", thrown(x, d, -1), 1);
        }
        doc.due("element(1, 0) throws nothing", thrown(x, 1, 0), 0);
        doc.promises(37, "IllegalStateException: no ROW, no such place.");
        doc.due("nothing there", thrown(x, 7, 0), 2);
        doc.due("a glass there", thrown(x, 2, 0), 2);
        int[] places = {LEAST, -1, 2, 99, 100, MOST};
        for (int i : places) {
            doc.due("element(1, " + i + ")", thrown(x, 1, i), 2);
        }
        doc.due("element(1, 1) throws nothing", thrown(x, 1, 1), 0);
        doc.due("element(3, 0) of an empty row", thrown(x, 3, 0), 2);
    }

    private static String row(WhoseGlass x, int d, int size) {
        StringBuilder row = new StringBuilder();
        for (int i = 0; i < size; i++) {
            row.append(x.element(d, i)).append(' ');
        }
        return row.toString().strip();
    }

    private void copies() {
        doc.promises(38, "n elements of the ROW in SHELF d from i on come to that in SHELF e from j on: n.");
        WhoseGlass x = new WhoseGlass();
        Houses.numbers(x, 0, 1, 1, 2, 3, 4, 500);
        x.row(7, 1, 3);
        doc.due("copy(0, 3, 7, 1, 2)", x.copy(0, 3, 7, 1, 2), 2);
        doc.same("what has come", row(x, 7, 3), "0 4 500");
        doc.same("what was read", row(x, 0, 5), "1 2 3 4 500");
        doc.due("all of it", x.copy(0, 0, 7, 0, 3), 3);
        doc.same("all that has come", row(x, 7, 3), "1 2 3");
        doc.due("none", x.copy(0, 0, 7, 0, 0), 0);
        doc.due("none at both ends", x.copy(0, 5, 7, 3, 0), 0);
        doc.same("as it was", row(x, 7, 3), "1 2 3");
        doc.due("one place on, of itself", x.copy(0, 0, 0, 1, 4), 4);
        doc.same("each one on", row(x, 0, 5), "1 1 2 3 4");
        doc.due("one place back, of itself", x.copy(0, 1, 0, 0, 4), 4);
        doc.same("each one back", row(x, 0, 5), "1 2 3 4 4");
        doc.due("onto the same places", x.copy(0, 0, 0, 0, 5), 5);
        doc.same("the same", row(x, 0, 5), "1 2 3 4 4");
        x.row(1, 2, 100);
        x.row(2, 2, 100);
        x.put(1, 99, MOST);
        doc.due("a hundred", x.copy(1, 0, 2, 0, 100), 100);
        doc.due("the last of them", x.element(2, 99), MOST);
    }

    private void copiesRefused() {
        doc.promises(38, "-1, -11 (either), -12 (no ROWS of one SORT), -13.");
        WhoseGlass x = new WhoseGlass();
        Houses.numbers(x, 0, 1, 1, 2, 3, 4, 5);
        Houses.numbers(x, 1, 1, 7, 8, 9);
        x.row(2, 0, 5);
        x.row(3, 2, 5);
        x.keep(4, 1, 0, 0);
        for (int d : NO_SHELVES) {
            doc.due("copy from shelf " + d, x.copy(d, 0, 1, 0, 1), -1);
            doc.due("copy to shelf " + d, x.copy(0, 0, d, 0, 1), -1);
        }
        doc.due("from nothing", x.copy(7, 0, 1, 0, 1), -11);
        doc.due("to nothing", x.copy(0, 0, 7, 0, 1), -11);
        doc.due("from nothing to nothing", x.copy(7, 0, 6, 0, 1), -11);
        int[][] pairs = {{4, 1}, {0, 4}, {4, 4}, {0, 2}, {2, 0}, {0, 3}, {3, 0}, {2, 3}, {3, 2}, {4, 2}, {2, 4}};
        for (int[] pair : pairs) {
            doc.due("from " + pair[0] + " to " + pair[1], x.copy(pair[0], 0, pair[1], 0, 1), -12);
        }
        int[][] places = {{-1, 0, 1}, {0, -1, 1}, {5, 0, 1}, {0, 3, 1}, {6, 0, 0}, {0, 4, 0}, {-1, 0, 0}, {0, -1, 0},
            {3, 0, 3}, {0, 1, 3}, {0, 0, 4}, {0, 0, -1}, {1, 1, -1}, {LEAST, 0, 1}, {0, LEAST, 1}, {MOST, 0, 1},
            {0, MOST, 1}, {0, 0, MOST}, {0, 0, LEAST}, {1, 0, MOST}, {0, 1, MOST}, {MOST, MOST, MOST},
            {LEAST, LEAST, LEAST}, {MOST, 0, 0}, {0, MOST, 0}, {MOST, 0, LEAST}};
        for (int[] p : places) {
            doc.due("copy(0, " + p[0] + ", 1, " + p[1] + ", " + p[2] + ")", x.copy(0, p[0], 1, p[1], p[2]), -13);
        }
        doc.same("as it was", row(x, 1, 3), "7 8 9");
    }

    private void costOfShelves() {
        doc.promises(39, "COST of the GLASS on SHELF d.");
        WhoseGlass x = new WhoseGlass();
        int[] want = {2, 6, 3, 4, 6, 15, 3, 20};
        for (int d = 0; d < 8; d++) {
            x.keep(d, 1, d, 4);
        }
        for (int d = 0; d < 8; d++) {
            doc.due("cost(" + d + ")", x.cost(d), want[d]);
        }
        doc.promises(39, "-1, -11, -12 (a ROW).");
        for (int d : NO_SHELVES) {
            doc.due("cost(" + d + ")", x.cost(d), -1);
        }
        x.keep(7, 0, 0, 0);
        doc.due("nothing there", x.cost(7), -11);
        for (int sort = 0; sort < 3; sort++) {
            x.row(7, sort, 0);
            doc.due("a row of sort " + sort, x.cost(7), -12);
        }
    }

    private void tossIs(int kind, int figure, int want) {
        WhoseGlass x = new WhoseGlass();
        x.keep(7, 1, kind, figure);
        doc.due("toss of kind " + kind + ", figure " + figure, x.toss(7), want);
        doc.due("it stays there", x.toss(7), want);
    }

    private void tosses() {
        doc.promises(40, "The FAILURE of the GLASS on SHELF d is thrown, and caught: its FIGURE;");
        int[] plain = {0, 1, 2, 6, 7};
        for (int kind : plain) {
            tossIs(kind, 1, 1);
            tossIs(kind, 9, 9);
        }
        doc.promises(40, "of RED ones (KIND 3 alone) 100 more;");
        tossIs(3, 1, 101);
        tossIs(3, 9, 109);
        tossIs(6, 5, 5);
        tossIs(7, 5, 5);
        doc.promises(40, "of OWLS 200 plus their COST, in place of all that (FIGURE, too).");
        tossIs(5, 1, 212);
        tossIs(5, 9, 220);
    }

    private void tossesRefused() {
        doc.promises(40, "-1, -11, -12 (a ROW);");
        WhoseGlass x = new WhoseGlass();
        for (int d : NO_SHELVES) {
            doc.due("toss(" + d + ")", x.toss(d), -1);
        }
        doc.due("nothing there", x.toss(7), -11);
        for (int sort = 0; sort < 3; sort++) {
            x.row(7, sort, 0);
            doc.due("a row of sort " + sort, x.toss(7), -12);
        }
        doc.promises(40, "-15: WATER ones, and any with FIGURE 0, have none.");
        for (int kind = 0; kind < 8; kind++) {
            tossIs(kind, 0, -15);
        }
        tossIs(4, 1, -15);
        tossIs(4, 9, -15);
    }
}
