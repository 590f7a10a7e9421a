/** Houses for tests: texts are put byte by byte into SHELF 7 and read from there. */
final class Houses {

    static final int SHELF = 7;

    private Houses() {
    }

    static WhoseGlass of(String text) {
        WhoseGlass x = new WhoseGlass();
        int answer = read(x, text);
        if (answer < 1) {
            throw new IllegalArgumentException("the test's own house is at fault: " + text + " " + answer);
        }
        return x;
    }

    static int read(WhoseGlass x, String text) {
        shelve(x, SHELF, text);
        return x.house(SHELF);
    }

    static void shelve(WhoseGlass x, int d, String text) {
        x.row(d, 0, text.length());
        for (int i = 0; i < text.length(); i++) {
            x.put(d, i, text.charAt(i));
        }
    }

    static void numbers(WhoseGlass x, int d, int sort, int... numbers) {
        x.row(d, sort, numbers.length);
        for (int i = 0; i < numbers.length; i++) {
            x.put(d, i, numbers[i]);
        }
    }

    /** All that is told of a house; some calls for each of its glasses and guests. */
    static String told(WhoseGlass x) {
        StringBuilder told = new StringBuilder();
        for (int what = 0; what < 7; what++) {
            told.append(x.count(what)).append(' ');
        }
        for (int i = 0; i < x.count(0); i++) {
            told.append("glass ");
            for (int what = 0; what < 7; what++) {
                told.append(x.glass(i, what)).append(' ');
            }
        }
        for (int i = 0; i < x.count(1); i++) {
            told.append("guest ");
            for (int what = 0; what < 9; what++) {
                told.append(x.guest(i, what)).append(' ');
            }
        }
        return told.toString();
    }

    /** What is held by a shelf: its glass by cost and failure, or its row by elements. */
    static String toldOfShelf(WhoseGlass x, int d) {
        StringBuilder told = new StringBuilder();
        told.append(x.cost(d)).append(' ').append(x.toss(d));
        try {
            for (int i = 0; i <= 100; i++) {
                long element = x.element(d, i);
                told.append(' ').append(element);
            }
        } catch (IllegalStateException behindTheEnd) {
            return told.toString();
        }
        return told.toString();
    }
}
