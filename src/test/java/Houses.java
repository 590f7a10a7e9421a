/** Houses for tests: texts are put byte by byte into SHELF 7 and read from there. */
final class Houses {

    static final int SHELF = 7;

    private Houses() {
    }

    static WhoseGlass of(String text) {
        WhoseGlass x = new WhoseGlass();
        int answer = read(x, text);
        if (answer < 1) {
            throw new IllegalArgumentException("the test's own house is at fault: " + text + " " + answer);
        }
        return x;
    }

    static int read(WhoseGlass x, String text) {
        shelve(x, SHELF, text);
        return x.house(SHELF);
    }

    static void shelve(WhoseGlass x, int d, String text) {
        x.row(d, 0, text.length());
        for (int i = 0; i < text.length(); i++) {
            x.put(d, i, text.charAt(i));
        }
    }

    static void numbers(WhoseGlass x, int d, int sort, int... numbers) {
        x.row(d, sort, numbers.length);
        for (int i = 0; i < numbers.length; i++) {
            x.put(d, i, numbers[i]);
        }
    }
}
