/** Promises 3 to 12: what is told of glasses and guests, and what they do now. */
public final class GoingOnTest {

    private static final Check check = new Check("GoingOnTest");

    public static void main(String[] args) {
        tellsGlasses();
        tellsGuests();
        glassesCome();
        guestsGo();
        sipsByKinds();
        coldsGoByGlasses();
        laysDown();
        takesFromTheTray();
        takesWhatIsMostLike();
        fillsUp();
        clearsAway();
        minutesGoBy();
        guestsGoRound();
        check.end();
    }

    private static void tellsGlasses() {
        WhoseGlass x = Houses.of("m;m;m;g5341;p11001;p11001;");
        int[] want = {5, 3, 4, 1, 0, 0, 3, -1};
        for (int what = 0; what < want.length; what++) {
            check.due("glass(0, " + what + ")", x.glass(0, what), want[what]);
        }
        check.due("glass(0, -1)", x.glass(0, -1), -1);
        check.due("glass(-1, 0)", x.glass(-1, 0), -1);
        check.due("glass(1, 0)", x.glass(1, 0), -1);
        check.due("glass(most, 0)", x.glass(Integer.MAX_VALUE, 0), -1);
        check.due("guest 1 holds it", Houses.read(x, "h100;"), 1);
        check.due("where it is", x.glass(0, 3), 11);
        check.due("it is not laid", x.glass(0, 6), -4);
        x.sip(1);
        check.due("who sipped it", x.glass(0, 4), 2);
        x.lay(1);
        Houses.read(x, "h000;");
        x.sip(0);
        check.due("who sipped it, both", x.glass(0, 4), 3);
        x.lay(0);
        x.clear(1, 0);
        int[] sunk = {5, 3, 0, 20, 0, 0, -4};
        for (int what = 0; what < sunk.length; what++) {
            check.due("glass(0, " + what + ") in the sink", x.glass(0, what), sunk[what]);
        }
    }

    private static void tellsGuests() {
        WhoseGlass x = Houses.of("p12345;");
        int[] want = {1, 2, 3, 4, 5, -4, -4, 0, 0, -1};
        for (int what = 0; what < want.length; what++) {
            check.due("guest(0, " + what + ")", x.guest(0, what), want[what]);
        }
        check.due("guest(0, -1)", x.guest(0, -1), -1);
        check.due("guest(-1, 0)", x.guest(-1, 0), -1);
        check.due("guest(1, 0)", x.guest(1, 0), -1);
    }

    private static void glassesCome() {
        WhoseGlass x = Houses.of("m;");
        x.keep(3, 1, 6, 4);
        check.due("comes(3, 2)", x.comes(3, 2), 0);
        int[] want = {6, 4, 9, 2, 0, 0, 1};
        for (int what = 0; what < want.length; what++) {
            check.due("glass(0, " + what + ") that came", x.glass(0, what), want[what]);
        }
        check.due("it stays on the shelf", x.cost(3), 3);
        check.due("comes(-1, 0)", x.comes(-1, 0), -1);
        check.due("comes(8, 0)", x.comes(8, 0), -1);
        check.due("comes(3, -1)", x.comes(3, -1), -1);
        check.due("comes(3, 6)", x.comes(3, 6), -1);
        check.due("comes(0, 6), nothing there either", x.comes(0, 6), -1);
        check.due("comes(0, 0), nothing there", x.comes(0, 0), -11);
        x.row(0, 0, 1);
        check.due("comes(0, 0), a row", x.comes(0, 0), -12);
        for (int i = 1; i < 12; i++) {
            check.due("one more comes", x.comes(3, i % 6), i);
        }
        check.due("no room", x.comes(3, 0), -2);
        check.due("no room, of a row", x.comes(0, 0), -12);
        check.due("no room, of nothing", x.comes(1, 0), -11);
        x.clear(1, 0);
        check.due("the sink makes no room", x.comes(3, 0), -2);
    }

    private static void guestsGo() {
        WhoseGlass x = Houses.of("g0194;p11004;h000;");
        check.due("go(0, 5)", x.go(0, 5), 4);
        check.due("go(0, 5) again", x.go(0, 5), 5);
        check.due("its place", x.guest(0, 4), 5);
        check.due("it holds its glass still", x.glass(0, 3), 10);
        check.due("go(0, -1)", x.go(0, -1), -1);
        check.due("go(0, 6)", x.go(0, 6), -1);
        check.due("go(-1, 0)", x.go(-1, 0), -1);
        check.due("go(1, 0)", x.go(1, 0), -1);
        check.due("it stays where it was", x.guest(0, 4), 5);
    }

    private static void sipsByKinds() {
        int[] even = {2, 2, 1, 5, 0, 2, 5, 6};
        int[] odd = {2, 2, 1, 5, 0, 2, 0, 6};
        for (int kind = 0; kind < 8; kind++) {
            WhoseGlass x = Houses.of("g" + kind + "340;p11000;h000;");
            check.due("first sip of kind " + kind, x.sip(0), even[kind]);
            check.due("second sip of kind " + kind, x.sip(0), odd[kind]);
            check.due("had", x.guest(0, 7), even[kind] + odd[kind]);
            check.due("fill", x.glass(0, 2), 2);
            x.sip(0);
            x.sip(0);
            check.due("a sip of an empty one", x.sip(0), -3);
            check.due("had behind that", x.guest(0, 7), 2 * (even[kind] + odd[kind]));
        }
        WhoseGlass x = Houses.of("g0190;p11000;");
        check.due("sip(-1)", x.sip(-1), -1);
        check.due("sip(1)", x.sip(1), -1);
        check.due("sip without a glass", x.sip(0), -3);
    }

    private static void coldsGoByGlasses() {
        WhoseGlass x = Houses.of("g0190;p11000;p11000;p11000;c0;h000;");
        check.due("no germs at first", x.glass(0, 5), 0);
        x.sip(0);
        check.due("germs by a cold", x.glass(0, 5), 1);
        x.lay(0);
        Houses.read(x, "h100;");
        check.due("no cold by holding it", x.count(5), 1);
        x.sip(1);
        check.due("a cold by germs", x.guest(1, 8), 1);
        check.due("who has a cold", x.count(5), 3);
        x.lay(1);
        Houses.read(x, "c0;c1;h200;");
        check.due("nobody", x.count(5), 0);
        x.sip(2);
        check.due("germs stay", x.count(5), 4);
        x.lay(2);
        x.clear(0, 0);
        check.due("no germs in the sink", x.glass(0, 5), 0);
    }

    private static void laysDown() {
        WhoseGlass x = Houses.of("m;m;g0190;p99003;h000;m;");
        check.due("lay(0)", x.lay(0), 0);
        check.due("laid at its place", x.glass(0, 3), 3);
        check.due("laid now", x.glass(0, 6), 3);
        check.due("it holds none", x.guest(0, 5), -4);
        check.due("its own stays so", x.guest(0, 6), 0);
        check.due("lay(0) again", x.lay(0), -3);
        check.due("lay(-1)", x.lay(-1), -1);
        check.due("lay(1)", x.lay(1), -1);
    }

    private static void takesFromTheTray() {
        WhoseGlass x = Houses.of("g0990;p11000;p11000;t20;");
        check.due("without an own one", x.take(0), 1);
        int[] want = {0, 9, 9, 10, 0, 0, -4};
        for (int what = 0; what < want.length; what++) {
            check.due("glass(1, " + what + ") from the tray", x.glass(1, what), want[what]);
        }
        check.due("one less on the tray", x.count(2), 19);
        check.due("its own", x.guest(0, 6), 1);
        check.due("take(0), it holds one", x.take(0), -3);
        check.due("take(-1)", x.take(-1), -1);
        check.due("take(2)", x.take(2), -1);
        x.lay(0);
        x.clear(0, 0);
        check.due("its own is in the sink", x.take(0), 2);
        check.due("figure 8", x.glass(2, 1), 8);
        Houses.read(x, "t11;");
        x.take(1);
        check.due("figure 0 of 10 left", x.glass(3, 1), 0);

        WhoseGlass empty = Houses.of("g0190;p11000;p11001;t1;h000;");
        check.due("the last of the tray", empty.take(1), 1);
        check.due("its figure", empty.glass(1, 1), 0);
        empty.lay(0);
        empty.clear(0, 0);
        check.due("an empty tray", empty.take(0), -4);
        check.due("it holds none", empty.guest(0, 5), -4);
        check.due("its own is still the one in the sink", empty.guest(0, 6), 0);
        check.due("no glass more", empty.count(0), 2);
        check.due("none below none", empty.count(2), 0);

        WhoseGlass full = Houses.of("g0190;".repeat(12) + "p11000;");
        check.due("no room", full.take(0), -4);
        check.due("the tray stays", full.count(2), 20);
    }

    private static void takesWhatIsMostLike() {
        check.due("its own of two", taken("g1290;g0290;p11000;h000;", 0), 0);
        check.due("figures alike", taken("g0295;g0390;g0290;p11000;h000;", 5), 2);
        check.due("only what is laid there", taken("g0295;g0291;g0390;p11000;h000;", 5), 2);
        check.due("the last laid of several", taken("g0295;g0390;m;g0490;p11000;h000;", 5), 2);
        check.due("the least of those", taken("g0295;g0490;g0590;p11000;h000;", 5), 1);
        check.due("most like goes ahead of last laid", taken("g0295;g0290;m;g0590;p11000;h000;", 5), 1);
        check.due("care as much as it is like", taken("g0295;g0290;p11030;h000;", 5), 1);
        check.due("too much care: the tray", taken("g0295;g0290;p11040;h000;", 5), 2);
        check.due("not like at all: the tray", taken("g1295;g0290;p11000;h000;", 5), 2);
        check.due("own one to a poured guest", taken("g7295;g0200;g0390;p11000;h000;", 5), 2);

        WhoseGlass x = Houses.of("g0290;g0390;p11000;h000;");
        x.go(0, 5);
        x.lay(0);
        x.go(0, 0);
        check.due("another one's", x.take(0), 1);
        check.due("it is its own then", x.guest(0, 6), 1);
        check.due("it holds it", x.guest(0, 5), 1);
        check.due("in its hand", x.glass(1, 3), 10);
        check.due("its own of before stays laid", x.glass(0, 3), 5);
        check.due("the tray stays", x.count(2), 20);
    }

    /** What guest 0, of place 0, takes when its own is laid at a place. */
    private static int taken(String house, int laidAt) {
        WhoseGlass x = Houses.of(house);
        x.go(0, laidAt);
        x.lay(0);
        x.go(0, 0);
        return x.take(0);
    }

    private static void fillsUp() {
        WhoseGlass x = Houses.of("g0140;g0150;g0100;g0141;g0140;p11000;h004;");
        check.due("fill(0)", x.fill(0), 2);
        int[] want = {9, 5, 9, 4, 4};
        for (int i = 0; i < want.length; i++) {
            check.due("fill of glass " + i, x.glass(i, 2), want[i]);
        }
        check.due("all fills", x.count(4), 31);
        check.due("fill(0) again", x.fill(0), 0);
        check.due("fill(1)", x.fill(1), 1);
        check.due("fill(-1)", x.fill(-1), -1);
        check.due("fill(6)", x.fill(6), -1);
        x.clear(0, 0);
        check.due("the sink is not filled", x.fill(0), 0);
    }

    private static void clearsAway() {
        WhoseGlass x = Houses.of("g0190;m;g0190;m;g0190;g0191;p11000;h002;");
        check.due("clear(0, 3)", x.clear(0, 3), 0);
        check.due("clear(0, 2)", x.clear(0, 2), 1);
        check.due("glass 0 is in the sink", x.glass(0, 3), 20);
        check.due("glass 1 is not", x.glass(1, 3), 0);
        check.due("clear(0, 0)", x.clear(0, 0), 1);
        check.due("what is held stays", x.glass(2, 3), 10);
        check.due("other places stay", x.glass(3, 3), 1);
        check.due("in the sink", x.count(6), 2);
        check.due("clear(0, 0) again", x.clear(0, 0), 0);
        check.due("clear(0, -1)", x.clear(0, -1), -1);
        check.due("clear(0, 100)", x.clear(0, 100), -1);
        check.due("clear(-1, 0)", x.clear(-1, 0), -1);
        check.due("clear(6, 0)", x.clear(6, 0), -1);
        WhoseGlass old = Houses.of("g0190;");
        old.minutes(98);
        check.due("clear(0, 99) too early", old.clear(0, 99), 0);
        old.minutes(1);
        check.due("clear(0, 99)", old.clear(0, 99), 1);
    }

    private static void minutesGoBy() {
        WhoseGlass x = Houses.of("g0290;p23000;h000;");
        // It sips at 0, 2, 6, 8, 12 and lays at 3, 6, 9, 12; it takes the minute behind.
        int[] fills = {8, 8, 7, 7, 7, 7, 6, 6, 5, 5, 5, 5, 4};
        int[] places = {10, 10, 10, 0, 10, 10, 0, 10, 10, 0, 10, 10, 0};
        for (int t = 0; t < fills.length; t++) {
            check.due("minutes(1)", x.minutes(1), t + 1);
            check.due("fill behind minute " + t, x.glass(0, 2), fills[t]);
            check.due("where behind minute " + t, x.glass(0, 3), places[t]);
        }
        check.due("laid at", x.glass(0, 6), 12);
        check.due("had", x.guest(0, 7), 10);
        check.due("minutes(0)", x.minutes(0), -1);
        check.due("minutes(-1)", x.minutes(-1), -1);
        check.due("minutes(100)", x.minutes(100), -1);
        WhoseGlass late = new WhoseGlass();
        for (int k = 1; k <= 10; k++) {
            check.due("minutes(99)", late.minutes(99), 99 * k);
        }
        check.due("above 999", late.minutes(10), -2);
        check.due("minute stays", late.count(3), 990);
        check.due("999", late.minutes(9), 999);
        check.due("above 999 by one", late.minutes(1), -2);

        WhoseGlass dry = Houses.of("g3310;p19000;h000;");
        dry.minutes(8);
        check.due("no sip of an empty one", dry.guest(0, 7), 5);
        check.due("fill 0", dry.glass(0, 2), 0);

        WhoseGlass order = Houses.of("g0190;g0190;p91000;p91000;h000;h101;m;");
        order.minutes(1);
        order.go(0, 1);
        check.due("both are laid", order.glass(0, 6) + order.glass(1, 6), 2);
        Houses.read(order, "p91000;g0190;h202;");
        order.minutes(1);
        check.due("guest 1 takes ahead of guest 2's laying", order.guest(1, 5), 0);
        check.due("guest 2 laid", order.guest(2, 5), -4);
    }

    private static void guestsGoRound() {
        WhoseGlass x = Houses.of("p19204;");
        int[] places = {4, 4, 5, 5, 0, 0, 1};
        for (int t = 0; t < places.length; t++) {
            x.minutes(1);
            check.due("place behind minute " + t, x.guest(0, 4), places[t]);
        }
        WhoseGlass still = Houses.of("p19004;");
        still.minutes(30);
        check.due("step 0 stays", still.guest(0, 4), 4);
        WhoseGlass ahead = Houses.of("g0190;p91100;h000;m;");
        ahead.minutes(1);
        check.due("it goes, then it lays", ahead.glass(0, 3), 1);
    }
}
