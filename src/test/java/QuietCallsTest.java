/**
 * "A refused call changes nothing", nor does one that only asks, or takes nothing: drawn runs on two objects,
 * the second one without all those calls. In the end all that is told of the two must be the same.
 */
public final class QuietCallsTest {

    private static final int RUNS = 3000;
    private static final int CALLS = 90;
    private static final int CHANGING = 15;
    private static final int ASKING = 24;
    private static final int TEXT_SHELF = 7;
    private static final int LONGEST_TEXT = 40;
    private static final int MOST_CALLS = 512;
    private static final int[] ODD = {-1, 6, 8, 10, 12, 61, 100, 101, Integer.MIN_VALUE, Integer.MAX_VALUE};
    private static final String[] HOUSES = {"g0190;g0190;p12000;p23101;h000;h101;c0;t9;", "g1190;g6235;p11100;p35023;h100;",
        "g5190;g4111;g3292;g7341;p11200;p11111;h000;", "p11000;p21005;t2;", "g0190;m;g2190;", "t40;"};
    private static final String[] STATEMENTS = {"g0190;", "g1291;", "g2290;", "g3142;", "g4190;", "g5350;", "g6270;",
        "g7111;", "p12000;", "p23101;", "p31230;", "h000;", "h101;", "h202;", "c0;", "c1;", "t3;", "m;", "g8190;", "h7"};

    private static final Check check = new Check("QuietCallsTest");

    private final WhoseGlass x = new WhoseGlass();
    private final WhoseGlass quiet = new WhoseGlass();
    private long seed;
    private int calls;
    private int leftOut;

    private QuietCallsTest(int run) {
        seed = run * 104729L + 5;
    }

    public static void main(String[] args) {
        int leftOut = 0;
        for (int run = 0; run < RUNS; run++) {
            leftOut += new QuietCallsTest(run).run(run);
        }
        check.holds("many calls are left out: " + leftOut, leftOut > 50 * RUNS);
        check.end();
    }

    private int run(int number) {
        begin();
        for (int k = 0; k < CALLS; k++) {
            calls++;
            if (draw(3) == 0) {
                ask(draw(ASKING), near(6), near(8), near(61));
                leftOut++;
            } else {
                change(draw(CHANGING), near(6), near(9), near(8), near(6), near(5));
            }
        }
        check.holds("all is as without what is left out of run " + number, told(x).equals(told(quiet)));
        int telling = 145 + 7 * 17 + LONGEST_TEXT + 5;
        check.holds("run " + number + " is no longer than it may be", calls + telling <= MOST_CALLS);
        return leftOut;
    }

    private int draw(int n) {
        seed = seed * 6364136223846793005L + 1442695040888963407L;
        return (int) ((seed >>> 33) % n);
    }

    private int near(int n) {
        return draw(10) == 0 ? ODD[draw(ODD.length)] : draw(n);
    }

    private void begin() {
        String house = HOUSES[draw(HOUSES.length)];
        shelve(house);
        change(14, TEXT_SHELF, 0, 0, 0, 0);
        calls++;
        // One run in four plays near the last minute.
        for (int k = draw(4) == 0 ? 0 : 10; k < 10; k++) {
            change(7, 0, 99, 0, 0, 0);
            calls++;
        }
        StringBuilder text = new StringBuilder();
        for (int k = 0; k < 16 && text.length() < LONGEST_TEXT - 6; k++) {
            int bound = draw(10) == 0 ? STATEMENTS.length : STATEMENTS.length - 2;
            text.append(STATEMENTS[draw(bound)]);
        }
        shelve(text.toString());
    }

    private void shelve(String text) {
        Houses.shelve(x, TEXT_SHELF, text);
        Houses.shelve(quiet, TEXT_SHELF, text);
        calls += text.length() + 1;
    }

    private void change(int which, int a, int b, int c, int d, int e) {
        int got = changed(x, which, a, b, c, d, e);
        if (got < 0) {
            leftOut++;
            return;
        }
        check.due("call " + which + " without what is left out", changed(quiet, which, a, b, c, d, e), got);
    }

    private static int changed(WhoseGlass x, int which, int a, int b, int c, int d, int e) {
        switch (which) {
            case 0: return x.comes(a, b);
            case 1: return x.go(a, b);
            case 2: return x.sip(a);
            case 3: return x.lay(a);
            case 4: return x.take(a);
            case 5: return x.fill(a);
            case 6: return x.clear(a, b);
            case 7: return x.minutes(b);
            case 8: return x.image();
            case 9: return x.restore();
            case 10: return x.keep(a, d % 3, b, c);
            // Rows stay short, so that all of them can be told in the end.
            case 11: return x.row(a, d, b > 12 && b <= 100 ? 12 : b);
            case 12: return x.put(a, b, c * 65521);
            case 13: return x.copy(a, b, c, d, e);
            default: return x.house(a > 2 && a < 6 ? TEXT_SHELF : a);
        }
    }

    private void ask(int which, int a, int b, int n) {
        switch (which) {
            case 0: x.glass(a, b); break;
            case 1: x.guest(a, b); break;
            case 2: x.like(a, b); break;
            case 3: x.mine(a); break;
            case 4: x.likely(a, b, n > 50 ? n : n % 2); break;
            case 5: x.idle(a); break;
            case 6: x.oldest(a); break;
            case 7: x.mistakes(n); break;
            case 8: x.fresh(n); break;
            case 9: x.colds(n); break;
            case 10: x.had(a, n); break;
            case 11: x.where(a, n); break;
            case 12: x.brought(a, n); break;
            case 13: x.particular(n); break;
            case 14: x.mark(n); break;
            case 15: x.close(n); break;
            case 16: x.driver(n); break;
            case 17: x.full(); break;
            case 18: x.seeded(b, n, a); break;
            case 19: x.judge(a, b); break;
            case 20: x.count(a); break;
            case 21: x.cost(a); break;
            case 22: x.toss(a); break;
            default: element(a, b); break;
        }
    }

    private void element(int d, int i) {
        try {
            x.element(d, i);
        } catch (IllegalArgumentException | IllegalStateException asTold) {
            leftOut++;
        }
    }

    private static String told(WhoseGlass x) {
        StringBuilder told = new StringBuilder(Houses.told(x));
        for (int d = 0; d < 8; d++) {
            told.append("; ").append(Houses.toldOfShelf(x, d)).append(' ').append(keptOf(x, d));
        }
        return told.toString();
    }

    /** What a shelf's row keeps of a large number tells its sort. */
    private static long keptOf(WhoseGlass x, int d) {
        return x.put(d, 0, 99999) == 0 ? x.element(d, 0) : 0;
    }
}
