/** Terms 3 and promises 18 to 30: minutes to come, seeds, told places. */
final class MindSentences {

    private static final int LEAST = Integer.MIN_VALUE;
    private static final int MOST = Integer.MAX_VALUE;

    // Guest 0 lays at 2, 4, 6, guest 1 at 3, 6; at 4 guest 1 takes guest 0's, which was laid last,
    // at 5 guest 0 the other one, at 7 each of them the other's.
    private static final String PAIR = "g0190;g0190;p12000;p13000;h000;h101;";

    private final Sentences doc;

    MindSentences(Sentences doc) {
        this.doc = doc;
    }

    void tell() {
        inMindFromNowOn();
        mistakesAndFresh();
        colds();
        had();
        where();
        brought();
        broughtRefused();
        particular();
        mark();
        close();
        closeStays();
        driver();
        full();
        spansRefused();
        seeded();
        draws();
        seededRefused();
        judged();
        judgeRefused();
    }

    /** The call of a promise that asks for n minutes to come, with its other number 0. */
    private static int ask(WhoseGlass x, int promise, int n) {
        switch (promise) {
            case 18: return x.mistakes(n);
            case 19: return x.fresh(n);
            case 20: return x.colds(n);
            case 21: return x.had(0, n);
            case 22: return x.where(0, n);
            case 23: return x.brought(0, n);
            case 24: return x.particular(n);
            case 25: return x.mark(n);
            case 26: return x.close(n);
            case 27: return x.driver(n);
            default: throw new IllegalArgumentException("no such promise: " + promise);
        }
    }

    private void inMindFromNowOn() {
        doc.says("In mind, from now on, n MINUTES (0 .. 60):");
        WhoseGlass x = Houses.of(PAIR + "c0;");
        String before = Houses.told(x);
        int[] now = {0, 0, 1, 0, 10, 0, 0, -4, -4, 0};
        for (int promise = 18; promise <= 27; promise++) {
            doc.due("promise " + promise + ", 0 minutes", ask(x, promise, 0), now[promise - 18]);
            doc.due("promise " + promise + ", -1 minutes", ask(x, promise, -1), -1);
            doc.due("promise " + promise + ", 61 minutes", ask(x, promise, 61), -1);
            doc.due("promise " + promise + ", 60 minutes are not refused", ask(x, promise, 60) == -1 ? 1 : 0, 0);
        }
        x.full();
        x.seeded(30, 7, 0);
        Houses.numbers(x, 0, 0, 10, 10, 10);
        x.judge(0, 0);
        doc.same("all behind that", Houses.told(x), before);
        x.minutes(5);
        doc.due("mistakes of 2 minutes from 5 on", x.mistakes(2), 1);
        doc.due("mistakes of 3 minutes from 5 on", x.mistakes(3), 3);
        WhoseGlass far = Houses.of("g0190;p11100;h000;");
        int then = far.where(0, 60);
        far.minutes(60);
        doc.due("where behind 60 minutes", far.glass(0, 3), then);
        WhoseGlass late = Houses.of("p99000;t0;");
        for (int k = 0; k < 10; k++) {
            late.minutes(99);
        }
        Houses.read(late, "m;m;m;m;m;m;m;m;m;t9;");
        doc.due("minute", late.count(3), 999);
        doc.due("in mind, minutes beyond 999", late.fresh(60), 1);
    }

    private void mistakesAndFresh() {
        doc.says("MISTAKES, FRESH ones (from the TRAY) in these;");
        WhoseGlass x = Houses.of(PAIR);
        int[] mistakes = {0, 0, 0, 0, 0, 1, 2, 2, 4};
        for (int n = 0; n < mistakes.length; n++) {
            doc.due("mistakes(" + n + ")", x.mistakes(n), mistakes[n]);
            doc.due("fresh(" + n + ")", x.fresh(n), 0);
        }
        WhoseGlass one = Houses.of("p11000;p11000;p11000;t2;");
        doc.due("fresh(0)", one.fresh(0), 0);
        doc.due("two left", one.fresh(1), 2);
        doc.due("no mistakes in the first minute", one.mistakes(1), 0);
        doc.promises(18, "MISTAKES.");
        doc.due("mistakes(5)", x.mistakes(5), 1);
        x.minutes(5);
        doc.due("not those of before", x.mistakes(0), 0);
        doc.promises(19, "FRESH ones.");
        WhoseGlass two = Houses.of("p19000;p19000;");
        doc.due("fresh(1)", two.fresh(1), 2);
        doc.due("fresh(60)", two.fresh(60), 2);
        two.minutes(1);
        doc.due("not those of before", two.fresh(60), 0);
        WhoseGlass full = Houses.of("g0190;".repeat(11) + "p19000;p19000;");
        doc.due("room for one", full.fresh(60), 1);
    }

    private void colds() {
        doc.says("who has a COLD then;");
        WhoseGlass x = Houses.of(PAIR + "c0;");
        int[] bits = {1, 1, 1, 1, 1, 1, 3, 3};
        for (int n = 0; n < bits.length; n++) {
            doc.due("colds(" + n + ")", x.colds(n), bits[n]);
        }
        doc.promises(20, "Who has a COLD then (bits).");
        doc.due("nobody", Houses.of(PAIR).colds(60), 0);
        WhoseGlass six = Houses.of("p11000;".repeat(6) + "c0;c5;");
        doc.due("guests 0 and 5", six.colds(0), 33);
        doc.due("now still", six.count(5), 33);
    }

    private void had() {
        doc.says("HAD of a guest;");
        WhoseGlass x = Houses.of("g0290;p23000;h000;");
        int[] want = {0, 2, 2, 4, 4, 4, 4, 6, 6, 8};
        for (int n = 0; n < want.length; n++) {
            doc.due("had(0, " + n + ")", x.had(0, n), want[n]);
        }
        doc.promises(21, "HAD then.");
        x.minutes(3);
        doc.due("what it has had, too", x.had(0, 0), 4);
        doc.due("and what comes", x.had(0, 4), 6);
        doc.promises(21, "-1.");
        int[] guests = {LEAST, -1, 1, 6, MOST};
        for (int guest : guests) {
            doc.due("had(" + guest + ", 0)", x.had(guest, 0), -1);
        }
        spans(21, x);
    }

    private void where() {
        doc.says("where a GLASS is then (PLACE; 10 and the guest; 20 the SINK).");
        WhoseGlass x = Houses.of("g0290;g0292;g0295;p99000;p23000;h100;");
        int[] want = {11, 11, 11, 11, 0, 11, 11, 0};
        for (int n = 0; n < want.length; n++) {
            doc.due("where(0, " + n + ")", x.where(0, n), want[n]);
        }
        doc.due("at place 5", x.where(2, 60), 5);
        x.clear(2, 0);
        doc.due("in the sink", x.where(1, 60), 20);
        doc.promises(22, "Where a GLASS is then.");
        doc.due("now", x.where(0, 0), 11);
        x.minutes(4);
        doc.due("then", x.where(0, 0), 0);
        doc.promises(22, "-1.");
        WhoseGlass y = Houses.of("g0290;p11000;");
        int[] glasses = {LEAST, -1, 1, 12, MOST};
        for (int glass : glasses) {
            doc.due("where(" + glass + ", 5)", y.where(glass, 5), -1);
        }
        spans(22, y);
    }

    private void brought() {
        doc.says("BROUGHT (told guests, bits): those (bits) of whom each, alone with a COLD now and no GERMS anywhere, "
                + "would bring it that just the told ones have a COLD behind n MINUTES.");
        WhoseGlass x = Houses.of(PAIR);
        // By guest 0 the other one has it behind 6 minutes, by guest 1 behind 7.
        int[][] asked = {{1, 0, 1}, {2, 0, 2}, {3, 0, 0}, {1, 5, 1}, {1, 6, 0}, {2, 6, 2}, {3, 5, 0}, {3, 6, 1},
            {2, 7, 0}, {3, 7, 3}, {3, 60, 3}, {0, 0, 0}, {0, 60, 0}};
        for (int[] a : asked) {
            doc.due("brought(" + a[0] + ", " + a[1] + ")", x.brought(a[0], a[1]), a[2]);
        }
        Houses.read(x, "c0;c1;");
        x.sip(0);
        x.sip(1);
        doc.due("germs on glass 0", x.glass(0, 5), 1);
        doc.due("without germs and colds of now", x.brought(1, 5), 1);
        doc.due("and those of guest 1", x.brought(2, 5), 2);
        doc.due("all have one still", x.count(5), 3);
        // Guest 2 alone has it, and nobody drinks from its glass.
        WhoseGlass three = Houses.of("g0190;g0190;p12000;p13000;p99003;h000;h101;");
        doc.due("just the told ones", three.brought(4, 60), 4);
        doc.due("not those with others", three.brought(3, 60), 3);
        doc.due("not more than they", three.brought(7, 60), 0);
        doc.promises(23, "BROUGHT (bits).");
        WhoseGlass six = Houses.of("p11000;".repeat(6));
        doc.due("brought(32, 0)", six.brought(32, 0), 32);
        doc.due("brought(63, 0)", six.brought(63, 0), 0);
        doc.due("no guests", new WhoseGlass().brought(0, 60), 0);
    }

    private void broughtRefused() {
        doc.promises(23, "-1.");
        WhoseGlass six = Houses.of("p11000;".repeat(6));
        WhoseGlass two = Houses.of("p11000;p11000;");
        int[] told = {LEAST, -1, 64, MOST};
        for (int t : told) {
            doc.due("six guests, brought(" + t + ", 0)", six.brought(t, 0), -1);
            doc.due("two guests, brought(" + t + ", 0)", two.brought(t, 0), -1);
        }
        doc.due("brought(63, 60) of six", six.brought(63, 60) >= 0 ? 1 : 0, 1);
        doc.due("brought(3, 0) of two", two.brought(3, 0), 0);
        doc.due("brought(4, 0) of two", two.brought(4, 0), -1);
        doc.due("brought(1, 0) of nobody", new WhoseGlass().brought(1, 0), -1);
        spans(23, two);
    }

    private void particular() {
        doc.says("PARTICULAR: the least CARE (0 .. 9) for all alike by which no guest more has a COLD behind n MINUTES "
                + "than now; -4.");
        WhoseGlass x = Houses.of(PAIR + "c0;");
        doc.due("particular(0)", x.particular(0), 0);
        doc.due("particular(5)", x.particular(5), 0);
        doc.due("particular(6), of like 3", x.particular(6), 4);
        WhoseGlass careful = Houses.of("g0190;g0190;p12090;p13090;h000;h101;c0;");
        doc.due("whatever care they take now", careful.particular(6), 4);
        WhoseGlass all = Houses.of(PAIR + "c0;c1;");
        doc.due("all have one", all.particular(60), 0);
        WhoseGlass red = Houses.of("g3190;g3195;p11000;p11000;h000;h101;c0;");
        layApart(red);
        doc.due("it takes that, but does not sip", red.particular(1), 0);
        doc.due("of like 7", red.particular(2), 8);
        // Guest 1's own is a marked one, from which guest 0 has sipped: no care is enough.
        WhoseGlass marked = Houses.of("g1190;p11003;p11000;h100;c0;");
        marked.lay(1);
        Houses.read(marked, "h000;");
        marked.sip(0);
        marked.go(0, 0);
        marked.lay(0);
        marked.go(0, 3);
        doc.due("none for its own", marked.particular(2), -4);
        doc.due("it is not yet sipped", marked.particular(1), 0);
        doc.promises(24, "PARTICULAR; -4.");
        doc.due("no guests", new WhoseGlass().particular(60), 0);
        doc.due("none", marked.particular(60), -4);
        doc.due("care stays", marked.guest(0, 3), 0);
    }

    /** Guest 0 sips and leaves its glass at place 0 to guest 1, whose own is left at place 5. */
    private static void layApart(WhoseGlass x) {
        x.sip(0);
        x.lay(0);
        x.go(0, 3);
        x.go(1, 5);
        x.lay(1);
        x.go(1, 0);
    }

    private void mark() {
        doc.says("MARK: the GLASS which, were it MARKED (FIGURE as it is), brings fewest MISTAKES in n MINUTES, fewer "
                + "than else; of several the least; -4.");
        WhoseGlass x = Houses.of(PAIR);
        doc.due("mark(0)", x.mark(0), -4);
        doc.due("mark(4), no mistakes", x.mark(4), -4);
        doc.due("mark(5), fewer by guest 1's own alone", x.mark(5), 1);
        doc.due("it is not marked", x.glass(1, 0), 0);
        WhoseGlass swapped = Houses.of("g0190;g0190;p13000;p12000;h000;h101;");
        doc.due("2 mistakes", swapped.mistakes(6), 2);
        doc.due("fewest (0), not the first that brings fewer (1)", swapped.mark(6), 1);
        WhoseGlass two = apart("g2190;g2195;p99050;h001;");
        doc.due("a mistake", two.mistakes(1), 1);
        doc.due("the least of two that bring none", two.mark(1), 0);
        WhoseGlass figure = apart("g0190;g0195;p99030;h001;");
        doc.due("a mistake of care 3", figure.mistakes(1), 1);
        doc.due("its figure is as it is: only its own", figure.mark(1), 1);
        WhoseGlass no = apart("g3195;g3190;p99000;p99000;h000;");
        doc.due("the marked one is still like it, its own is not", no.mark(1), 0);
        doc.promises(25, "MARK; -4.");
        doc.due("no glasses", new WhoseGlass().mark(60), -4);
        doc.due("mark(5)", x.mark(5), 1);
        WhoseGlass marked = apart("g0195;g1190;p99000;h000;");
        doc.due("one that is marked brings no fewer", marked.mark(1), 0);
    }

    /** Guest 0's own is left at place 5, it is at place 0. */
    private static WhoseGlass apart(String house) {
        WhoseGlass x = Houses.of(house);
        x.go(0, 5);
        x.lay(0);
        x.go(0, 0);
        return x;
    }

    private void close() {
        doc.says("CLOSE: the PLACE which, were it left out by all who go on (they go to the one behind it at once;");
        // It lays its glass at 2 and goes on at 3 to where nothing is laid; behind that there is one alike.
        WhoseGlass x = Houses.of("g0190;g0192;p92300;h000;");
        doc.due("a fresh one at 3", x.fresh(4), 1);
        doc.due("none ahead of that", x.close(3), -4);
        doc.due("place 1 left out", x.close(4), 1);
        doc.due("it goes as before", x.where(1, 4), 2);
        WhoseGlass zero = Houses.of("g0195;g0191;p92305;h000;");
        doc.due("place 0 left out, from 5 on to 1", zero.close(4), 0);
        WhoseGlass five = Houses.of("g0194;g0190;p92304;h000;");
        doc.due("place 5 left out, from 4 on to 0", five.close(4), 5);
        // The last place that is left out in mind is 5: it is left out there alone.
        doc.due("a fresh one at 5 then", five.fresh(4), 1);
        doc.due("it goes to 5 then", five.where(1, 4), 0);
        doc.due("so it does in a text", Houses.read(five, "m;m;m;m;"), 4);
        doc.due("where it has gone", five.guest(0, 4), 5);
        five.minutes(3);
        doc.due("and on to 0", five.guest(0, 4), 0);
    }

    private void closeStays() {
        doc.says("who is there stays till it goes on),");
        WhoseGlass stays = apart("g0195;g0191;p99000;h000;");
        doc.due("a fresh one at 0", stays.fresh(1), 1);
        doc.due("who is there does not go", stays.close(1), -4);
        WhoseGlass goes = Houses.of("g0190;g0191;p91200;h000;");
        doc.due("it goes on to 1 at 2", goes.close(3), -4);
        doc.says("brings fewest FRESH ones in n MINUTES, fewer than else; of several the least; -4.");
        // Left out, 1 spares two of them and 3 spares one; then 1 spares one and 3 two; then each one.
        WhoseGlass first = Houses.of("g0190;g0190;g0192;g0192;g0192;g0194;p92300;p92300;p92302;h000;h101;h202;");
        doc.due("three fresh ones", first.fresh(4), 3);
        doc.due("fewest by place 1", first.close(4), 1);
        WhoseGlass second = Houses.of("g0190;g0192;g0192;g0192;g0194;g0194;p92300;p92302;p92302;h000;h101;h202;");
        doc.due("three again", second.fresh(4), 3);
        doc.due("fewest by place 3", second.close(4), 3);
        WhoseGlass alike = Houses.of("g0190;g0192;g0192;g0194;p92300;p92302;h000;h101;");
        doc.due("two fresh ones", alike.fresh(4), 2);
        doc.due("the least of two", alike.close(4), 1);
        doc.due("no fewer than else", alike.close(3), -4);
        doc.promises(26, "CLOSE; -4.");
        doc.due("nobody there", new WhoseGlass().close(60), -4);
        doc.due("close(0)", alike.close(0), -4);
        doc.due("place 1", alike.close(4), 1);
        doc.due("fresh ones as before", alike.fresh(4), 2);
    }

    private void driver() {
        doc.says("DRIVER: the guest who would have HAD least behind n MINUTES, of several the least; -4 there is none.");
        WhoseGlass x = Houses.of("g0290;g0290;p19000;p29000;h000;h101;");
        doc.due("driver(0), the least of two", x.driver(0), 0);
        doc.due("driver(1), the least of two", x.driver(1), 0);
        doc.due("driver(2)", x.driver(2), 1);
        x.sip(1);
        doc.due("4 and 4", x.driver(2), 0);
        x.sip(1);
        doc.due("what they have had counts", x.driver(2), 0);
        doc.due("now", x.driver(0), 0);
        doc.due("no guests", new WhoseGlass().driver(0), -4);
        WhoseGlass six = Houses.of("g0290;p99000;p99000;p99000;p99000;p99000;p99000;h000;");
        six.sip(0);
        doc.due("the least of five", six.driver(0), 1);
        doc.promises(27, "DRIVER; -4.");
        doc.due("driver(60)", six.driver(60), 1);
        doc.due("no guests", new WhoseGlass().driver(60), -4);
    }

    private void full() {
        doc.says("FULL: behind how many MINUTES (0 .. 60) first no guest HOLDS one that is empty (FILL 0) and none is "
                + "LAID empty; -4.");
        WhoseGlass x = Houses.of("g0210;p19000;h000;");
        doc.due("fill 1 is not empty", x.full(), 0);
        x.sip(0);
        doc.due("it holds an empty one", x.full(), -4);
        x.lay(0);
        doc.due("an empty one is laid", x.full(), -4);
        x.fill(0);
        doc.due("it is filled", x.full(), 0);
        WhoseGlass other = Houses.of("g0205;g0200;p11000;h000;");
        doc.due("laid and held", other.full(), -4);
        other.clear(0, 0);
        doc.due("held", other.full(), -4);
        other.lay(0);
        other.clear(0, 0);
        doc.due("in the sink they do not count", other.full(), 0);
        doc.promises(28, "FULL; -4.");
        doc.due("nothing there", new WhoseGlass().full(), 0);
        doc.due("none but full ones", Houses.of(PAIR).full(), 0);
        WhoseGlass one = Houses.of("g0190;g0193;g0104;");
        doc.due("one empty of three", one.full(), -4);
        doc.due("nothing changes by it", one.count(3), 0);
    }

    private void spans(int promise, WhoseGlass x) {
        int[] wrong = {LEAST, -1, 61, MOST};
        for (int n : wrong) {
            doc.due("promise " + promise + " for " + n + " minutes", ask(x, promise, n), -1);
        }
        doc.due("0 minutes are not refused", ask(x, promise, 0) == -1 ? 1 : 0, 0);
        doc.due("60 minutes are not refused", ask(x, promise, 60) == -1 ? 1 : 0, 0);
    }

    private void spansRefused() {
        int[] promises = {18, 19, 20, 24, 25, 26, 27};
        for (int promise : promises) {
            doc.promises(promise, "-1.");
            spans(promise, Houses.of(PAIR + "c0;"));
            spans(promise, new WhoseGlass());
        }
    }

    private static int drawn(long z) {
        return (int) ((z & 0x7fffffffL) / 65536 % 6);
    }

    /** Mistakes (what 0) or fresh ones (1) of a house that is really played with a seed's draws. */
    private static int played(String house, int n, int z, int what) {
        WhoseGlass x = Houses.of(house);
        int seed = z;
        int all = 0;
        for (int k = 0; k < n; k++) {
            for (int guest = 0; guest < x.count(1); guest++) {
                seed = (int) (seed * 1103515245L + 12345L);
                x.go(guest, drawn(seed));
            }
            all += what == 0 ? x.mistakes(1) : x.fresh(1);
            x.minutes(1);
        }
        return all;
    }

    private void seeded() {
        doc.says("SEEDED: n times (1 .. 30) with a seed z, in mind, each guest, by numbers, goes to a PLACE (a DRAW below 6), "
                + "then a MINUTE goes by: MISTAKES in all; FRESH ones.");
        String house = "g0190;g2190;g0293;p12100;p23012;p11200;h000;h101;";
        int[] seeds = {0, 1, 7, -1, LEAST, MOST, 123456789};
        int[] times = {1, 2, 7, 30};
        WhoseGlass x = Houses.of(house);
        for (int z : seeds) {
            for (int n : times) {
                doc.due("seeded(" + n + ", " + z + ", 0)", x.seeded(n, z, 0), played(house, n, z, 0));
                doc.due("seeded(" + n + ", " + z + ", 1)", x.seeded(n, z, 1), played(house, n, z, 1));
            }
        }
        doc.due("they stay where they are", x.guest(0, 4) + x.guest(1, 4), 2);
        doc.due("no minute goes by", x.count(3), 0);
        doc.promises(29, "SEEDED: MISTAKES (what 0), FRESH ones (1).");
        // Seed 1 draws 2, seed -1 draws 5: there is its own, here another one, elsewhere nothing.
        WhoseGlass y = Houses.of("g0192;g0195;p19000;h001;");
        y.go(0, 5);
        y.lay(0);
        doc.due("another one by seed 1", y.seeded(1, 1, 0), 1);
        doc.due("no fresh one by seed 1", y.seeded(1, 1, 1), 0);
        doc.due("its own by seed -1", y.seeded(1, -1, 0) + y.seeded(1, -1, 1), 0);
        doc.due("a fresh one by seed 0", y.seeded(1, 0, 1), 1);
        doc.due("no mistake by seed 0", y.seeded(1, 0, 0), 0);
    }

    private void draws() {
        doc.says("DRAWS: z becomes z times 1103515245 plus 12345 (an int); a DRAW below n is (z without its sign's bit over "
                + "65536, cut) modulo n.");
        // Counted by hand; of seed 2 the first z is below 0.
        int[] seeds = {0, 1, 2, 5, -1, LEAST};
        int[] places = {0, 2, 2, 1, 5, 0};
        for (int i = 0; i < seeds.length; i++) {
            for (int place = 0; place < 6; place++) {
                WhoseGlass x = Houses.of("g019" + place + ";p99000;h000;");
                x.go(0, place);
                x.lay(0);
                doc.due("fresh ones of seed " + seeds[i] + ", own laid at " + place,
                        x.seeded(1, seeds[i], 1), place == places[i] ? 0 : 1);
            }
        }
        // Seed 1 draws 2, then 4, then 3: of one guest, minute by minute, and of several in one minute.
        WhoseGlass three = Houses.of("g0192;g0294;g0393;p99002;p99004;p99003;h000;h101;h202;");
        three.lay(0);
        three.lay(1);
        three.lay(2);
        doc.due("each finds its own", three.seeded(1, 1, 1) + three.seeded(1, 1, 0), 0);
        WhoseGlass on = Houses.of("g0192;g0194;g0193;p91002;h000;");
        on.lay(0);
        doc.due("its own at 2, laid at 4", on.seeded(2, 1, 0), 0);
        doc.due("another one at 3", on.seeded(3, 1, 0), 1);
        doc.due("no fresh one", on.seeded(3, 1, 1), 0);
    }

    private void seededRefused() {
        doc.promises(29, "-1, -3: there are no guests.");
        WhoseGlass x = Houses.of("p11000;");
        int[] times = {LEAST, -1, 0, 31, MOST};
        for (int n : times) {
            doc.due("seeded(" + n + ", 1, 0)", x.seeded(n, 1, 0), -1);
        }
        int[] whats = {LEAST, -1, 2, MOST};
        for (int what : whats) {
            doc.due("seeded(1, 1, " + what + ")", x.seeded(1, 1, what), -1);
        }
        doc.due("seeded(1, 1, 1)", x.seeded(1, 1, 1), 1);
        doc.due("seeded(30, 1, 0)", x.seeded(30, 1, 0) >= 0 ? 1 : 0, 1);
        WhoseGlass nobody = Houses.of("g0190;");
        doc.due("no guests", nobody.seeded(1, 1, 0), -3);
        doc.due("no guests, 30 times", nobody.seeded(30, 1, 1), -3);
    }

    private void judged() {
        doc.says("JUDGED: a ROW tells where a GLASS is behind 0, 1, .. MINUTES: the first that isn't so (the least number of "
                + "the SORT is skipped); -4.");
        int[] places = {10, 10, 10, 10, 0, 10, 10, 0};
        int[] least = {-128, -32768, LEAST};
        int[] others = {-127, -32767, LEAST + 1, 127, 32767, MOST};
        WhoseGlass x = Houses.of("g0290;p23000;h000;");
        for (int sort = 0; sort < 3; sort++) {
            Houses.numbers(x, sort, sort, places);
            doc.due("all is so", x.judge(0, sort), -4);
            for (int i = 0; i < places.length; i += 7) {
                x.put(sort, i, 5);
                doc.due("not so behind " + i, x.judge(0, sort), i);
                x.put(sort, i, least[sort]);
                doc.due("skipped behind " + i, x.judge(0, sort), -4);
                x.put(sort, i, least[sort] + 1);
                doc.due("not the least behind " + i, x.judge(0, sort), i);
                x.put(sort, i, others[3 + sort]);
                doc.due("nor the greatest behind " + i, x.judge(0, sort), i);
                x.put(sort, i, least[sort]);
            }
            x.put(sort, 4, 10);
            x.put(sort, 5, 0);
            doc.due("the first of two", x.judge(0, sort), 4);
        }
        Houses.numbers(x, 3, 1, -128);
        doc.due("a short is not skipped for the least byte", x.judge(0, 3), 0);
        Houses.numbers(x, 3, 2, -32768);
        doc.due("an int is not skipped for the least short", x.judge(0, 3), 0);
        WhoseGlass still = Houses.of("g0293;g0294;");
        doc.promises(30, "JUDGED by the ROW in SHELF d; -4.");
        still.row(7, 0, 100);
        for (int i = 0; i < 100; i++) {
            still.put(7, i, 3);
        }
        doc.due("a hundred that are so", still.judge(0, 7), -4);
        doc.due("of the other glass", still.judge(1, 7), 0);
        still.put(7, 99, 2);
        doc.due("the last one is not", still.judge(0, 7), 99);
        still.row(0, 2, 0);
        doc.due("an empty row", still.judge(0, 0), -4);
        still.clear(3, 0);
        Houses.numbers(still, 1, 0, 20, 20, 3);
        doc.due("in the sink", still.judge(0, 1), 2);
    }

    private void judgeRefused() {
        doc.promises(30, "-1, -11, -12 (no ROW).");
        WhoseGlass x = Houses.of("g0293;");
        x.row(0, 0, 1);
        int[] glasses = {LEAST, -1, 1, 12, MOST};
        for (int glass : glasses) {
            doc.due("judge(" + glass + ", 0)", x.judge(glass, 0), -1);
        }
        int[] shelves = {LEAST, -1, 8, MOST};
        for (int d : shelves) {
            doc.due("judge(0, " + d + ")", x.judge(0, d), -1);
        }
        doc.due("nothing there", x.judge(0, 6), -11);
        x.keep(6, 1, 0, 0);
        doc.due("a glass there", x.judge(0, 6), -12);
        for (int sort = 0; sort < 3; sort++) {
            x.row(6, sort, 1);
            doc.due("a row of sort " + sort, x.judge(0, 6), 0);
        }
    }
}
