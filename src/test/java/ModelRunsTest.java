/** Long runs of drawn calls, the program and the model side by side: every answer must be the same. */
public final class ModelRunsTest {

    private static final int RUNS = 1500;
    private static final int MOST_CALLS = 512;
    private static final int CALLS = 40;
    private static final int[] ODD = {-1, -2, Integer.MIN_VALUE, Integer.MAX_VALUE, 6, 7, 8, 9, 12, 13,
        60, 61, 99, 100, 101};
    private static final String SIGNS = "gphctm;0123456789x ";

    private static final Check check = new Check("ModelRunsTest");

    private final StringBuilder story = new StringBuilder();
    private WhoseGlass x;
    private Model model;
    private long seed;
    private int calls;

    public static void main(String[] args) {
        for (int run = 0; run < RUNS; run++) {
            new ModelRunsTest().run(run);
        }
        check.end();
    }

    private void run(int number) {
        seed = number * 7919L + 17;
        x = new WhoseGlass();
        model = new Model();
        // One house in ten is left as it is made, one in three goes on till the calls are used up.
        if (draw(10) > 0) {
            text(drawnHouse(3 + draw(12)));
        }
        int end = draw(3) == 0 ? MOST_CALLS - 150 : calls + CALLS;
        while (calls < end - 110 || calls < end && draw(30) > 0) {
            boolean roomForText = calls < MOST_CALLS - 300;
            if (draw(25) == 0 && roomForText) {
                text(draw(3) == 0 ? spoilt(drawnHouse(2 + draw(4))) : drawnHouse(1 + draw(6)));
            } else {
                call(draw(38));
            }
        }
        tellAll();
    }

    private int draw(int n) {
        seed = seed * 6364136223846793005L + 1442695040888963407L;
        return (int) ((seed >>> 33) % n);
    }

    /** A number below n mostly, an odd one at times. */
    private int near(int n) {
        return draw(12) == 0 ? ODD[draw(ODD.length)] : draw(n);
    }

    private String drawnHouse(int statements) {
        StringBuilder text = new StringBuilder();
        for (int k = 0; k < statements && text.length() < 90; k++) {
            switch (draw(12)) {
                case 0, 1, 2, 3:
                    text.append('g').append(draw(8)).append(draw(4)).append(draw(10)).append(draw(3));
                    break;
                case 4, 5, 6:
                    text.append('p').append(1 + draw(4)).append(1 + draw(6)).append(draw(6)).append(draw(5))
                            .append(draw(3));
                    break;
                case 7, 8:
                    text.append('h').append(draw(4)).append('0').append(draw(6));
                    break;
                case 9:
                    text.append('c').append(draw(3));
                    break;
                case 10:
                    text.append('t').append(draw(2) == 0 ? draw(10) : draw(100));
                    break;
                default:
                    text.append('m');
                    break;
            }
            text.append(';');
            // Statements that can't be done would hide all others: most of them are left away.
            Model trial = new Model();
            trial.now = model.now.twin();
            trial.shelves[0] = text.toString().getBytes(java.nio.charset.StandardCharsets.ISO_8859_1);
            if (trial.house(0) < 0 && draw(12) > 0) {
                text.setLength(text.lastIndexOf(";", text.length() - 2) + 1);
            }
        }
        return text.toString();
    }

    private String spoilt(String text) {
        StringBuilder spoilt = new StringBuilder(text);
        if (spoilt.length() == 0) {
            return text;
        }
        switch (draw(3)) {
            case 0:
                spoilt.setLength(draw(spoilt.length()));
                break;
            case 1:
                spoilt.setCharAt(draw(spoilt.length()), SIGNS.charAt(draw(SIGNS.length())));
                break;
            default:
                spoilt.insert(draw(spoilt.length()), SIGNS.charAt(draw(SIGNS.length())));
                break;
        }
        return spoilt.toString();
    }

    private void text(String text) {
        if (text.length() > 100) {
            return;
        }
        due("row(7, 0, " + text.length() + ")", x.row(7, 0, text.length()), model.row(7, 0, text.length()));
        for (int i = 0; i < text.length(); i++) {
            calls++;
            x.put(7, i, text.charAt(i));
            model.put(7, i, text.charAt(i));
        }
        due("house(7) of " + text, x.house(7), model.house(7));
    }

    private void due(String call, long got, long want) {
        calls++;
        story.append(call).append(' ').append(want).append("; ");
        if (got != want) {
            check.due("behind " + story, got, want);
        } else {
            check.due(call, got, want);
        }
    }

    private void call(int which) {
        int a = near(6);
        int b = near(6);
        int n = near(61);
        switch (which) {
            case 0: due("glass " + a + " " + b, x.glass(a, b), model.glass(a, b)); break;
            case 1: due("guest " + a + " " + b, x.guest(a, b), model.guest(a, b)); break;
            case 2: due("comes " + a + " " + b, x.comes(a, b), model.comes(a, b)); break;
            case 3: due("go " + a + " " + b, x.go(a, b), model.go(a, b)); break;
            case 4: due("sip " + a, x.sip(a), model.sip(a)); break;
            case 5: due("lay " + a, x.lay(a), model.lay(a)); break;
            case 6: due("take " + a, x.take(a), model.take(a)); break;
            case 7: due("fill " + a, x.fill(a), model.fill(a)); break;
            case 8: due("clear " + a + " " + b, x.clear(a, b), model.clear(a, b)); break;
            case 9: goOn(); break;
            case 10: due("like " + a + " " + b, x.like(a, b), model.like(a, b)); break;
            case 11: due("mine " + a, x.mine(a), model.mine(a)); break;
            case 12: likely(near(3), near(12), near(2)); break;
            case 13: due("idle " + a, x.idle(a), model.idle(a)); break;
            case 14: due("oldest " + a, x.oldest(a), model.oldest(a)); break;
            case 15: due("mistakes " + n, x.mistakes(n), model.mistakes(n)); break;
            case 16: due("fresh " + n, x.fresh(n), model.fresh(n)); break;
            case 17: due("colds " + n, x.colds(n), model.colds(n)); break;
            case 18: due("had " + a + " " + n, x.had(a, n), model.had(a, n)); break;
            case 19: due("where " + a + " " + n, x.where(a, n), model.where(a, n)); break;
            default: callLate(which, a, b, n); break;
        }
    }

    private void callLate(int which, int a, int b, int n) {
        int c = near(10);
        int told = near(1 << Math.min(6, model.now.guests.size()));
        int z = draw(1 << 16) * 65537;
        switch (which) {
            case 20: due("brought " + told + " " + n, x.brought(told, n), model.brought(told, n)); break;
            case 21: due("particular " + n, x.particular(n), model.particular(n)); break;
            case 22: due("mark " + n, x.mark(n), model.mark(n)); break;
            case 23: due("close " + n, x.close(n), model.close(n)); break;
            case 24: due("driver " + n, x.driver(n), model.driver(n)); break;
            case 25: due("full", x.full(), model.full()); break;
            case 26: due("seeded " + n / 2 + " " + z + " " + b % 3,
                    x.seeded(n / 2, z, b % 3), model.seeded(n / 2, z, b % 3)); break;
            case 27: judge(near(10)); break;
            case 28: image(); break;
            case 29: due("restore", x.restore(), model.restore()); break;
            case 30: due("count " + c, x.count(c), model.count(c)); break;
            case 31: due("keep " + a + " " + b % 3 + " " + c + " " + n % 11,
                    x.keep(a, b % 3, c, n % 11), model.keep(a, b % 3, c, n % 11)); break;
            case 32: due("row " + a + " " + b % 4 + " " + n % 9,
                    x.row(a, b % 4, n % 9), model.row(a, b % 4, n % 9)); break;
            case 33: due("put " + a + " " + b + " " + z, x.put(a, b, z), model.put(a, b, z)); break;
            case 34: element(a, b); break;
            case 35: copy(a, near(9), near(9)); break;
            case 36: due("cost " + a, x.cost(a), model.cost(a)); break;
            default: due("toss " + a, x.toss(a), model.toss(a)); break;
        }
    }

    private void goOn() {
        int n = draw(8) == 0 ? near(100) : 1 + draw(9);
        due("minutes " + n, x.minutes(n), model.minutes(n));
    }

    private void likely(int guest, int glass, int part) {
        due("likely " + guest + " " + glass + " " + part,
                x.likely(guest, glass, part), model.likely(guest, glass, part));
    }

    /** Told places are true ones up to somewhere, or the run would end at the first. */
    private void judge(int glass) {
        int d = 6;
        int sort = draw(3);
        int size = draw(15);
        due("row 6 " + sort + " " + size, x.row(d, sort, size), model.row(d, sort, size));
        int[] least = {Byte.MIN_VALUE, Short.MIN_VALUE, Integer.MIN_VALUE};
        for (int i = 0; i < size && model.where(glass, i) >= 0; i++) {
            int v = draw(5) == 0 ? least[sort] : draw(20) == 0 ? draw(21) : model.where(glass, i);
            due("put 6 " + i + " " + v, x.put(d, i, v), model.put(d, i, v));
        }
        due("judge " + glass + " 6", x.judge(glass, d), model.judge(glass, d));
        int e = near(8);
        due("judge " + glass + " " + e, x.judge(glass, e), model.judge(glass, e));
    }

    private void image() {
        if (draw(3) == 0) {
            due("image", x.image(), model.image());
        }
    }

    private void copy(int i, int j, int n) {
        int d = near(7);
        int e = draw(2) == 0 ? d : near(7);
        due("copy " + d + " " + i + " " + e + " " + j + " " + n, x.copy(d, i, e, j, n), model.copy(d, i, e, j, n));
    }

    private void element(int d, int i) {
        long want;
        try {
            want = model.element(d, i);
        } catch (IllegalArgumentException e) {
            want = Long.MAX_VALUE;
        } catch (IllegalStateException e) {
            want = Long.MIN_VALUE;
        }
        long got;
        try {
            got = x.element(d, i);
        } catch (IllegalArgumentException e) {
            got = Long.MAX_VALUE;
        } catch (IllegalStateException e) {
            got = Long.MIN_VALUE;
        }
        due("element " + d + " " + i, got, want);
    }

    private void tellAll() {
        for (int what = 0; what < 7; what++) {
            due("at last count " + what, x.count(what), model.count(what));
        }
        for (int i = 0; i < 12; i++) {
            for (int what = 0; what < 7; what++) {
                due("at last glass " + i + " " + what, x.glass(i, what), model.glass(i, what));
            }
        }
        for (int i = 0; i < 6; i++) {
            for (int what = 0; what < 9; what++) {
                due("at last guest " + i + " " + what, x.guest(i, what), model.guest(i, what));
            }
        }
        if (calls > MOST_CALLS) {
            throw new IllegalStateException("the run itself is too long: " + calls);
        }
    }
}
