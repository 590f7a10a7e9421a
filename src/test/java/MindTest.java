/** Promises 18 to 30: minutes to come, seeds and told places; nothing changes by them. */
public final class MindTest {

    // Guest 0 lays at 2, 4, 6, guest 1 at 3, 6; at 4 guest 1 takes guest 0's, which was laid last.
    private static final String PAIR = "g0190;g0190;p12000;p13000;h000;h101;";

    private static final Check check = new Check("MindTest");

    public static void main(String[] args) {
        countsMistakes();
        countsFresh();
        tellsColds();
        tellsHad();
        tellsWhere();
        tellsBrought();
        tellsParticular();
        tellsMark();
        tellsClose();
        tellsDriver();
        tellsFull();
        draws();
        judges();
        refusesSpans();
        changesNothing();
        agreesWithMinutes();
        check.end();
    }

    private static void countsMistakes() {
        WhoseGlass x = Houses.of(PAIR);
        int[] want = {0, 0, 0, 0, 0, 1, 2, 2, 4};
        for (int n = 0; n < want.length; n++) {
            check.due("mistakes(" + n + ")", x.mistakes(n), want[n]);
        }
        x.minutes(5);
        check.due("only those to come", x.mistakes(1), 1);
        WhoseGlass own = Houses.of("g0190;p11000;h000;");
        check.due("one's own and the tray's are none", own.mistakes(60), 0);
        WhoseGlass tray = Houses.of("p11000;");
        check.due("from the tray: no mistake", tray.mistakes(1), 0);
    }

    private static void countsFresh() {
        WhoseGlass x = Houses.of("p19000;p19000;");
        check.due("fresh(0)", x.fresh(0), 0);
        check.due("fresh(1)", x.fresh(1), 2);
        x.minutes(1);
        check.due("only those to come", x.fresh(60), 0);
        WhoseGlass one = Houses.of("p19000;p19000;t1;");
        check.due("one on the tray", one.fresh(60), 1);
        WhoseGlass full = Houses.of("g0190;".repeat(11) + "p19000;p19000;");
        check.due("room for one", full.fresh(60), 1);
    }

    private static void tellsColds() {
        WhoseGlass x = Houses.of(PAIR + "c0;");
        int[] want = {1, 1, 1, 1, 1, 1, 3, 3};
        for (int n = 0; n < want.length; n++) {
            check.due("colds(" + n + ")", x.colds(n), want[n]);
        }
        check.due("nobody's", Houses.of(PAIR).colds(60), 0);
    }

    private static void tellsHad() {
        WhoseGlass x = Houses.of("g0290;p23000;h000;");
        int[] want = {0, 2, 2, 4, 4, 4, 4, 6, 6, 8};
        for (int n = 0; n < want.length; n++) {
            check.due("had(0, " + n + ")", x.had(0, n), want[n]);
        }
        x.minutes(3);
        check.due("what it has had and what comes", x.had(0, 4), 6);
        check.due("had(-1, 0)", x.had(-1, 0), -1);
        check.due("had(1, 0)", x.had(1, 0), -1);
    }

    private static void tellsWhere() {
        WhoseGlass x = Houses.of("g0291;g0292;p23000;h000;");
        int[] want = {10, 10, 10, 10, 0, 10, 10, 0};
        for (int n = 0; n < want.length; n++) {
            check.due("where(0, " + n + ")", x.where(0, n), want[n]);
        }
        check.due("laid", x.where(1, 60), 2);
        x.clear(2, 0);
        check.due("in the sink", x.where(1, 60), 20);
        check.due("where(-1, 0)", x.where(-1, 0), -1);
        check.due("where(2, 0)", x.where(2, 0), -1);
        WhoseGlass none = Houses.of("p11000;");
        check.due("a glass that comes later", none.where(0, 5), -1);
    }

    private static void tellsBrought() {
        WhoseGlass x = Houses.of(PAIR);
        check.due("brought(1, 0)", x.brought(1, 0), 1);
        check.due("brought(2, 0)", x.brought(2, 0), 2);
        check.due("brought(0, 0)", x.brought(0, 0), 0);
        check.due("brought(3, 5)", x.brought(3, 5), 0);
        check.due("brought(3, 6)", x.brought(3, 6), 1);
        check.due("brought(2, 6)", x.brought(2, 6), 2);
        check.due("brought(1, 6)", x.brought(1, 6), 0);
        check.due("brought(3, 7)", x.brought(3, 7), 3);
        check.due("brought(4, 7)", x.brought(4, 7), -1);
        check.due("brought(-1, 7)", x.brought(-1, 7), -1);
        WhoseGlass germs = Houses.of(PAIR + "c0;c1;");
        germs.sip(0);
        germs.sip(1);
        check.due("colds and germs of now do not matter", germs.brought(1, 5), 1);
        check.due("nor those of the other", germs.brought(2, 5), 2);
        WhoseGlass nobody = new WhoseGlass();
        check.due("no guests", nobody.brought(0, 60), 0);
        check.due("no such guest", nobody.brought(1, 60), -1);
    }

    private static void tellsParticular() {
        WhoseGlass x = Houses.of(PAIR + "c0;");
        check.due("particular(5)", x.particular(5), 0);
        check.due("particular(6)", x.particular(6), 4);
        check.due("no guests", new WhoseGlass().particular(60), 0);
        // Guest 1 has guest 0's in its hand already: no care helps.
        WhoseGlass late = Houses.of("g0190;g0190;p19000;p19000;h000;h101;c0;");
        late.sip(0);
        late.lay(0);
        late.lay(1);
        check.due("it takes guest 0's", late.take(1), 0);
        check.due("particular(0)", late.particular(0), 0);
        check.due("particular(1)", late.particular(1), -4);
        WhoseGlass all = Houses.of(PAIR + "c0;c1;");
        check.due("all have one", all.particular(60), 0);
    }

    private static void tellsMark() {
        WhoseGlass x = Houses.of(PAIR);
        check.due("mark(4), no mistakes", x.mark(4), -4);
        check.due("mark(5)", x.mark(5), 1);
        WhoseGlass swapped = Houses.of("g0190;g0190;p13000;p12000;h000;h101;");
        check.due("mistakes", swapped.mistakes(6), 2);
        check.due("fewest, not the first that brings fewer", swapped.mark(6), 1);
        WhoseGlass tall = Houses.of("g2190;g2190;p91050;h000;");
        tall.go(0, 1);
        tall.lay(0);
        tall.go(0, 0);
        check.due("a mistake", tall.mistakes(1), 1);
        check.due("the least of several", tall.mark(1), 0);
        WhoseGlass marked = Houses.of("g0190;g0190;p91000;h000;");
        marked.go(0, 1);
        marked.lay(0);
        marked.go(0, 0);
        check.due("it takes the other", marked.mistakes(1), 1);
        check.due("its own marked", marked.mark(1), 0);
        check.due("no glasses", new WhoseGlass().mark(60), -4);
    }

    private static void tellsClose() {
        // It lays at 2, goes on at 3 to where nothing is laid; behind that there is something.
        WhoseGlass x = Houses.of("g0190;g0192;p92300;h000;");
        check.due("fresh(4)", x.fresh(4), 1);
        check.due("close(3)", x.close(3), -4);
        check.due("close(4)", x.close(4), 1);
        WhoseGlass three = Houses.of("g0190;g0190;g0192;g0192;g0192;g0194;p92300;p92300;p92302;h000;h101;h202;");
        check.due("three fresh ones", three.fresh(4), 3);
        check.due("fewest, not the last that brings fewer", three.close(4), 1);
        WhoseGlass round = Houses.of("g0195;g0191;p92305;h000;");
        check.due("place 0 left out", round.close(4), 0);
        WhoseGlass last = Houses.of("g0194;g0190;p92304;h000;");
        check.due("place 5 left out", last.close(4), 5);
        WhoseGlass stays = Houses.of("g0190;p91000;h000;");
        check.due("who is there stays", stays.close(60), -4);
    }

    private static void tellsDriver() {
        WhoseGlass x = Houses.of("g0290;g0290;p19000;p29000;h000;h101;");
        check.due("driver(0), the least of several", x.driver(0), 0);
        check.due("driver(1)", x.driver(1), 0);
        check.due("driver(2)", x.driver(2), 1);
        x.sip(1);
        x.sip(1);
        check.due("what they have had counts", x.driver(2), 0);
        check.due("no guests", new WhoseGlass().driver(60), -4);
    }

    private static void tellsFull() {
        check.due("nothing there", new WhoseGlass().full(), 0);
        WhoseGlass x = Houses.of("g0210;p19000;h000;");
        check.due("not empty yet", x.full(), 0);
        x.sip(0);
        check.due("held empty", x.full(), -4);
        x.lay(0);
        check.due("laid empty", x.full(), -4);
        x.clear(0, 0);
        check.due("in the sink", x.full(), 0);
        WhoseGlass y = Houses.of("g0204;");
        check.due("laid empty at once", y.full(), -4);
        y.fill(4);
        check.due("filled", y.full(), 0);
    }

    private static void draws() {
        // The first draws: of seed 0 place 0, of 1 and of 2 place 2, of 5 place 1, of -1 place 5.
        int[] seeds = {0, 1, 2, 5, -1};
        int[] places = {0, 2, 2, 1, 5};
        for (int i = 0; i < seeds.length; i++) {
            for (int place = 0; place < 6; place++) {
                WhoseGlass x = Houses.of("g019" + place + ";p19000;h000;");
                x.go(0, place);
                x.lay(0);
                check.due("fresh ones of seed " + seeds[i] + ", own laid at " + place,
                        x.seeded(1, seeds[i], 1), place == places[i] ? 0 : 1);
            }
        }
        WhoseGlass x = Houses.of("g0192;g0195;p19000;h001;");
        x.go(0, 5);
        x.lay(0);
        check.due("a mistake by seed 1", x.seeded(1, 1, 0), 1);
        check.due("none by seed -1", x.seeded(1, -1, 0), 0);
        // Seed 1 goes on with places 4 and 3.
        WhoseGlass two = Houses.of("g0192;g0194;p19002;p19004;h000;h101;");
        two.lay(0);
        two.lay(1);
        check.due("a draw for each guest", two.seeded(1, 1, 1), 0);
        WhoseGlass on = Houses.of("g0192;g0193;p91002;h000;");
        on.lay(0);
        check.due("fresh ones of three draws", on.seeded(3, 1, 1), 0);
        check.due("mistakes of two draws", on.seeded(2, 1, 0), 0);
        check.due("mistakes of three draws", on.seeded(3, 1, 0), 1);
        check.due("seeded(0, 1, 0)", x.seeded(0, 1, 0), -1);
        check.due("seeded(31, 1, 0)", x.seeded(31, 1, 0), -1);
        check.due("seeded(30, 1, -1)", x.seeded(30, 1, -1), -1);
        check.due("seeded(30, 1, 2)", x.seeded(30, 1, 2), -1);
        check.due("seeded(30, least, 0)", x.seeded(30, Integer.MIN_VALUE, 0) >= 0 ? 1 : 0, 1);
        WhoseGlass nobody = new WhoseGlass();
        check.due("no guests", nobody.seeded(1, 1, 0), -3);
        check.due("no guests, not as told", nobody.seeded(0, 1, 0), -1);
    }

    private static void judges() {
        WhoseGlass x = Houses.of("g0290;p23000;h000;");
        Houses.numbers(x, 0, 0, 10, 10, 10, 10, 0, 10, 10, 0);
        check.due("all is so", x.judge(0, 0), -4);
        x.put(0, 4, 10);
        check.due("the first that isn't", x.judge(0, 0), 4);
        x.put(0, 4, -128);
        check.due("the least byte is skipped", x.judge(0, 0), -4);
        x.put(0, 4, -127);
        check.due("no other is", x.judge(0, 0), 4);
        x.put(0, 0, 0);
        check.due("behind 0 minutes", x.judge(0, 0), 0);
        Houses.numbers(x, 1, 1, -32768, 10, -128);
        check.due("the least short, not the least byte", x.judge(0, 1), 2);
        Houses.numbers(x, 2, 2, Integer.MIN_VALUE, 10, -32768);
        check.due("the least int, not the least short", x.judge(0, 2), 2);
        x.row(3, 2, 0);
        check.due("an empty row", x.judge(0, 3), -4);
        WhoseGlass still = Houses.of("g0293;");
        still.row(0, 1, 100);
        for (int i = 0; i < 99; i++) {
            still.put(0, i, 3);
        }
        check.due("far behind", still.judge(0, 0), 99);
        check.due("judge(-1, 0)", still.judge(-1, 0), -1);
        check.due("judge(1, 0)", still.judge(1, 0), -1);
        check.due("judge(0, -1)", still.judge(0, -1), -1);
        check.due("judge(0, 8)", still.judge(0, 8), -1);
        check.due("judge(1, 1), no such glass goes ahead", still.judge(1, 1), -1);
        check.due("judge by nothing", still.judge(0, 1), -11);
        still.keep(1, 1, 0, 0);
        check.due("judge by a glass", still.judge(0, 1), -12);
    }

    private static void refusesSpans() {
        WhoseGlass x = Houses.of(PAIR);
        int[] spans = {-1, 61, Integer.MIN_VALUE, Integer.MAX_VALUE};
        for (int n : spans) {
            check.due("mistakes(" + n + ")", x.mistakes(n), -1);
            check.due("fresh(" + n + ")", x.fresh(n), -1);
            check.due("colds(" + n + ")", x.colds(n), -1);
            check.due("had(0, " + n + ")", x.had(0, n), -1);
            check.due("where(0, " + n + ")", x.where(0, n), -1);
            check.due("brought(0, " + n + ")", x.brought(0, n), -1);
            check.due("particular(" + n + ")", x.particular(n), -1);
            check.due("mark(" + n + ")", x.mark(n), -1);
            check.due("close(" + n + ")", x.close(n), -1);
            check.due("driver(" + n + ")", x.driver(n), -1);
        }
    }

    private static void changesNothing() {
        WhoseGlass x = Houses.of(PAIR + "c0;");
        long before = print(x);
        x.mistakes(60);
        x.fresh(60);
        x.colds(60);
        x.had(0, 60);
        x.where(0, 60);
        x.brought(1, 60);
        x.particular(60);
        x.mark(60);
        x.close(60);
        x.driver(60);
        x.full();
        x.seeded(30, 7, 0);
        x.row(0, 0, 9);
        x.judge(0, 0);
        x.mine(0);
        x.likely(0, 0, 0);
        check.due("the same behind all that is in mind", print(x), before);
    }

    private static long print(WhoseGlass x) {
        long print = 0;
        for (int what = 0; what < 7; what++) {
            print = 31 * print + x.count(what);
            for (int i = 0; i < 4; i++) {
                print = 31 * print + x.glass(i, what);
            }
        }
        for (int what = 0; what < 9; what++) {
            print = 31 * print + x.guest(0, what);
            print = 31 * print + x.guest(1, what);
        }
        return print;
    }

    /** Late in the evening too, where minutes in mind go beyond those that may come. */
    private static void agreesWithMinutes() {
        for (int n = 1; n <= 60; n++) {
            WhoseGlass x = Houses.of("g3190;g0190;g6291;p12100;p13200;h000;h101;c0;");
            x.minutes(17);
            int colds = x.colds(n);
            int had = x.had(1, n);
            int where = x.where(2, n);
            int fresh = x.fresh(n);
            int left = x.count(2);
            x.minutes(n);
            check.due("colds behind " + n, x.count(5), colds);
            check.due("had behind " + n, x.guest(1, 7), had);
            check.due("where behind " + n, x.glass(2, 3), where);
            check.due("fresh behind " + n, left - x.count(2), fresh);
        }
        WhoseGlass late = Houses.of("g0190;p99000;h000;");
        for (int k = 0; k < 10; k++) {
            late.minutes(99);
        }
        late.minutes(9);
        late.fill(0);
        check.due("999", late.count(3), 999);
        check.due("in mind beyond 999", late.where(0, 60) >= 0 ? 1 : 0, 1);
        check.due("mistakes beyond 999", late.mistakes(60), 0);
    }
}
