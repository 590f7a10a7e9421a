/** Promises 3 to 17, with LIKELY, IDLE and OLDEST of the terms: what is told and done now. */
final class CallsSentences {

    private static final int LEAST = Integer.MIN_VALUE;
    private static final int MOST = Integer.MAX_VALUE;

    private final Sentences doc;

    CallsSentences(Sentences doc) {
        this.doc = doc;
    }

    void tell() {
        ofAGlass();
        ofAGuest();
        comes();
        comesRefused();
        goes();
        sips();
        lays();
        takes();
        fills();
        clears();
        minutes();
        likes();
        mine();
        likely();
        likelyInLeastTerms();
        likelyRefused();
        idle();
        oldest();
    }

    private void ofAGlass() {
        doc.promises(3, "Of a GLASS: KIND (what 0), FIGURE (1), FILL (2), where it is (3), who SIPPED it (4, bits), 1 GERMS (5),");
        WhoseGlass x = Houses.of("m;m;m;g5341;g0000;p11001;p11001;h100;c1;");
        x.sip(1);
        int[] want = {5, 3, 3, 11, 2, 1};
        int[] other = {0, 0, 0, 0, 0, 0};
        for (int what = 0; what < want.length; what++) {
            doc.due("glass(0, " + what + ")", x.glass(0, what), want[what]);
            doc.due("glass(1, " + what + ")", x.glass(1, what), other[what]);
        }
        doc.promises(3, "the MINUTE at which it was LAID (6; -4 it is not).");
        doc.due("in a hand", x.glass(0, 6), -4);
        doc.due("laid", x.glass(1, 6), 3);
        x.lay(1);
        doc.due("laid now", x.glass(0, 6), 3);
        x.clear(1, 0);
        doc.due("in the sink", x.glass(0, 6), -4);
        WhoseGlass first = Houses.of("g0000;");
        doc.due("laid at minute 0", first.glass(0, 6), 0);
        doc.promises(3, "-1.");
        int[] glasses = {LEAST, -1, 2, 12, MOST};
        int[] whats = {LEAST, -1, 7, MOST};
        for (int glass : glasses) {
            doc.due("glass(" + glass + ", 0)", x.glass(glass, 0), -1);
        }
        for (int what : whats) {
            doc.due("glass(0, " + what + ")", x.glass(0, what), -1);
        }
    }

    private void ofAGuest() {
        doc.promises(4, "Of a guest: PACE (what 0), LAYS (1), STEP (2), CARE (3), PLACE (4), what it HOLDS (5; -4), "
                + "OWN (6; -4), HAD (7), 1 a COLD (8).");
        WhoseGlass x = Houses.of("g0190;g0190;p12345;p67891;h101;c1;");
        x.sip(1);
        int[] want = {1, 2, 3, 4, 5, -4, -4, 0, 0};
        int[] other = {6, 7, 8, 9, 1, 1, 1, 2, 1};
        for (int what = 0; what < want.length; what++) {
            doc.due("guest(0, " + what + ")", x.guest(0, what), want[what]);
            doc.due("guest(1, " + what + ")", x.guest(1, what), other[what]);
        }
        x.lay(1);
        doc.due("it holds none", x.guest(1, 5), -4);
        doc.due("its own stays", x.guest(1, 6), 1);
        doc.promises(4, "-1.");
        int[] guests = {LEAST, -1, 2, 6, MOST};
        int[] whats = {LEAST, -1, 9, MOST};
        for (int guest : guests) {
            doc.due("guest(" + guest + ", 0)", x.guest(guest, 0), -1);
        }
        for (int what : whats) {
            doc.due("guest(0, " + what + ")", x.guest(0, what), -1);
        }
    }

    private void comes() {
        doc.promises(5, "The GLASS on SHELF d comes to a PLACE, LAID there, FILL 9: its number.");
        WhoseGlass x = Houses.of("m;g0000;m;");
        int number = 1;
        for (int place = 0; place < 6; place += 5) {
            for (int d = 0; d < 8; d += 7) {
                x.keep(d, 1, 7 - d, 9 - d);
                doc.due("comes(" + d + ", " + place + ")", x.comes(d, place), number);
                int[] want = {7 - d, 9 - d, 9, place, 0, 0, 2};
                for (int what = 0; what < want.length; what++) {
                    doc.due("glass(" + number + ", " + what + ")", x.glass(number, what), want[what]);
                }
                number++;
            }
        }
        doc.due("once more from that shelf", x.comes(7, 0), number);
    }

    private void comesRefused() {
        doc.promises(5, "-1, -11, -12 (a ROW), -2.");
        WhoseGlass x = new WhoseGlass();
        x.keep(0, 1, 0, 0);
        x.row(1, 0, 3);
        int[] shelves = {LEAST, -1, 8, MOST};
        for (int d : shelves) {
            doc.due("comes(" + d + ", 0)", x.comes(d, 0), -1);
        }
        int[] places = {LEAST, -1, 6, MOST};
        for (int place : places) {
            doc.due("comes(0, " + place + ")", x.comes(0, place), -1);
        }
        doc.due("nothing on the shelf", x.comes(7, 0), -11);
        doc.due("a row on the shelf", x.comes(1, 0), -12);
        for (int i = 0; i < 12; i++) {
            doc.due("there is room", x.comes(0, 5), i);
        }
        doc.due("no room", x.comes(0, 5), -2);
    }

    private void goes() {
        doc.promises(6, "A guest goes to a PLACE: where it was.");
        WhoseGlass x = Houses.of("g0190;p11004;p11002;h000;");
        doc.due("go(0, 5)", x.go(0, 5), 4);
        doc.due("go(0, 5) where it is", x.go(0, 5), 5);
        doc.due("go(0, 0)", x.go(0, 0), 5);
        doc.due("its place", x.guest(0, 4), 0);
        doc.due("the other one stays", x.guest(1, 4), 2);
        doc.due("it holds its glass", x.glass(0, 3), 10);
        doc.promises(6, "-1.");
        int[] guests = {LEAST, -1, 2, 6, MOST};
        for (int guest : guests) {
            doc.due("go(" + guest + ", 0)", x.go(guest, 0), -1);
        }
        int[] places = {LEAST, -1, 6, MOST};
        for (int place : places) {
            doc.due("go(0, " + place + ")", x.go(0, place), -1);
        }
        doc.due("it stays", x.guest(0, 4), 0);
    }

    private void sips() {
        doc.promises(7, "It SIPS now: STRENGTH.");
        WhoseGlass x = Houses.of("g3420;g4110;p99000;p99000;h000;h101;m;");
        doc.due("sip(0)", x.sip(0), 6);
        doc.due("an empty one", x.sip(1), -3);
        x.lay(1);
        x.fill(0);
        Houses.read(x, "h101;");
        doc.due("sip(1)", x.sip(1), 0);
        doc.due("had", x.guest(0, 7), 12);
        doc.due("had of water", x.guest(1, 7), 0);
        doc.promises(7, "-1, -3: it HOLDS none, FILL 0.");
        int[] guests = {LEAST, -1, 2, 6, MOST};
        for (int guest : guests) {
            doc.due("sip(" + guest + ")", x.sip(guest), -1);
        }
        doc.due("fill 0", x.sip(0), -3);
        x.lay(0);
        x.fill(0);
        doc.due("it holds none", x.sip(0), -3);
        WhoseGlass last = Houses.of("g0110;p11000;h000;");
        doc.due("fill 1", last.sip(0), 2);
        doc.due("fill 0 then", last.sip(0), -3);
        doc.due("had by that", last.guest(0, 7), 2);
    }

    private void lays() {
        doc.promises(8, "It LAYS its GLASS down now: which.");
        WhoseGlass x = Houses.of("m;m;g0190;g0100;p11000;p11005;h001;h100;");
        doc.due("lay(0)", x.lay(0), 1);
        doc.due("lay(1)", x.lay(1), 0);
        doc.due("where it stands", x.glass(0, 3), 5);
        doc.due("laid now", x.glass(0, 6), 2);
        doc.due("an empty one, too", x.glass(1, 3), 0);
        doc.promises(8, "-1, -3: it HOLDS none.");
        int[] guests = {LEAST, -1, 2, 6, MOST};
        for (int guest : guests) {
            doc.due("lay(" + guest + ")", x.lay(guest), -1);
        }
        doc.due("it holds none", x.lay(0), -3);
    }

    private void takes() {
        doc.promises(9, "It TAKES now: the GLASS; -4 nothing.");
        WhoseGlass x = Houses.of("g0190;g0190;p11000;p11000;p11000;h001;t1;");
        x.lay(0);
        doc.due("its own or one alike", x.take(0), 0);
        doc.due("from the tray", x.take(1), 2);
        doc.due("nothing", x.take(2), -4);
        doc.due("it can be asked again", x.take(2), -4);
        doc.promises(9, "-1, -3: it HOLDS one.");
        int[] guests = {LEAST, -1, 3, 6, MOST};
        for (int guest : guests) {
            doc.due("take(" + guest + ")", x.take(guest), -1);
        }
        doc.due("it holds one", x.take(0), -3);
        doc.due("it holds one from the tray", x.take(1), -3);
    }

    private void fills() {
        doc.promises(10, "All LAID at a PLACE with FILL below 5 are filled to 9: how many.");
        WhoseGlass x = Houses.of("g0100;g0140;g0150;g0190;g0140;g0145;p11000;h004;");
        doc.due("fill(0)", x.fill(0), 2);
        int[] want = {9, 9, 5, 9, 4, 4};
        for (int i = 0; i < want.length; i++) {
            doc.due("fill of glass " + i, x.glass(i, 2), want[i]);
        }
        doc.due("fill(0) again", x.fill(0), 0);
        doc.due("fill(5)", x.fill(5), 1);
        x.clear(0, 0);
        doc.due("none in the sink", x.fill(0), 0);
        doc.promises(10, "-1.");
        int[] places = {LEAST, -1, 6, 10, 20, MOST};
        for (int place : places) {
            doc.due("fill(" + place + ")", x.fill(place), -1);
        }
    }

    private void clears() {
        doc.promises(11, "All LAID at a PLACE m MINUTES (0 .. 99) ago or longer come to the SINK: how many.");
        WhoseGlass x = Houses.of("g0190;m;g0190;m;g0190;g0195;g0190;p11000;h004;");
        doc.due("3 minutes ago", x.clear(0, 3), 0);
        doc.due("2 minutes ago", x.clear(0, 2), 1);
        doc.due("2 minutes ago again", x.clear(0, 2), 0);
        doc.due("now or longer ago", x.clear(0, 0), 2);
        int[] where = {20, 20, 20, 5, 10};
        for (int i = 0; i < where.length; i++) {
            doc.due("where glass " + i + " is", x.glass(i, 3), where[i]);
        }
        doc.due("at place 5", x.clear(5, 1), 0);
        doc.due("at place 5, now", x.clear(5, 0), 1);
        WhoseGlass old = Houses.of("g0190;");
        old.minutes(98);
        doc.due("99 minutes ago, not yet", old.clear(0, 99), 0);
        old.minutes(1);
        doc.due("99 minutes ago", old.clear(0, 99), 1);
        WhoseGlass older = Houses.of("g0190;");
        older.minutes(99);
        older.minutes(99);
        doc.due("longer than 99 minutes ago", older.clear(0, 99), 1);
        doc.promises(11, "-1.");
        int[] places = {LEAST, -1, 6, 10, 20, MOST};
        for (int place : places) {
            doc.due("clear(" + place + ", 0)", x.clear(place, 0), -1);
        }
        int[] ago = {LEAST, -1, 100, MOST};
        for (int m : ago) {
            doc.due("clear(0, " + m + ")", x.clear(0, m), -1);
        }
    }

    private void minutes() {
        doc.promises(12, "n MINUTES (1 .. 99): MINUTE.");
        WhoseGlass x = Houses.of("g0190;p19000;h000;");
        doc.due("minutes(1)", x.minutes(1), 1);
        doc.due("had", x.guest(0, 7), 2);
        doc.due("minutes(99)", x.minutes(99), 100);
        doc.due("had of nine sips", x.guest(0, 7), 18);
        doc.promises(12, "-1, -2 above 999.");
        int[] spans = {LEAST, -1, 0, 100, MOST};
        for (int n : spans) {
            doc.due("minutes(" + n + ")", x.minutes(n), -1);
        }
        for (int k = 1; k < 10; k++) {
            doc.due("minutes(99)", x.minutes(99), 100 + 99 * k);
        }
        doc.due("minute", x.count(3), 991);
        doc.due("1000", x.minutes(9), -2);
        doc.due("999", x.minutes(8), 999);
        doc.due("1000 by one", x.minutes(1), -2);
        doc.due("far above", x.minutes(99), -2);
        doc.due("minute still", x.count(3), 999);
    }

    private void likes() {
        doc.promises(13, "LIKE of one to another one (to itself, too).");
        WhoseGlass x = Houses.of("g2190;g6290;p11000;h000;");
        doc.due("like(0, 1)", x.like(0, 1), 1);
        doc.due("like(1, 0)", x.like(1, 0), 1);
        doc.due("like(0, 0), in a hand", x.like(0, 0), 6);
        doc.due("like(1, 1)", x.like(1, 1), 14);
        x.clear(0, 0);
        doc.due("like(1, 1) in the sink", x.like(1, 1), 14);
        doc.promises(13, "-1.");
        int[] glasses = {LEAST, -1, 2, 12, MOST};
        for (int glass : glasses) {
            doc.due("like(" + glass + ", 0)", x.like(glass, 0), -1);
            doc.due("like(0, " + glass + ")", x.like(0, glass), -1);
        }
    }

    private void mine() {
        doc.promises(14, "Which GLASS a guest would TAKE now (as if it HELD none); -4 from the TRAY, or nothing.");
        WhoseGlass x = Houses.of("g0290;g0390;g0291;p11000;p11020;h000;h101;t0;");
        doc.due("its own is in its hand", x.mine(0), -4);
        x.lay(1);
        doc.due("as if it held none", x.mine(0), 1);
        doc.due("it holds its own still", x.guest(0, 5), 0);
        doc.due("its own, laid", x.mine(1), 1);
        x.go(1, 1);
        doc.due("too particular: nothing", x.mine(1), -4);
        x.go(0, 1);
        doc.due("another one", x.mine(0), 2);
        x.lay(0);
        doc.due("its own, the least of those laid now", x.mine(0), 0);
        x.clear(1, 0);
        x.go(0, 0);
        doc.due("its own is in the sink", x.mine(0), -4);
        Houses.read(x, "t5;p11000;");
        doc.due("from the tray", x.mine(0), -4);
        doc.due("without an own", x.mine(2), -4);
        doc.due("the tray stays", x.count(2), 5);
        doc.promises(14, "-1.");
        int[] guests = {LEAST, -1, 3, 6, MOST};
        for (int guest : guests) {
            doc.due("mine(" + guest + ")", x.mine(guest), -1);
        }
    }

    private void likelyIs(String what, WhoseGlass x, int glass, int above, int below) {
        doc.due(what + ", above", x.likely(0, glass, 0), above);
        doc.due(what + ", below", x.likely(0, glass, 1), below);
    }

    private void likely() {
        doc.says("LIKELY of a GLASS LAID where a guest is: LIKE of its OWN to that, out of LIKE to all LAID there:");
        WhoseGlass x = Houses.of("g2290;g2290;g0290;g4390;g2291;g2290;p11000;p11000;h000;h105;");
        likelyIs("a tall one: 6 of 13", x, 1, 6, 13);
        likelyIs("a glass: 3 of 13", x, 2, 3, 13);
        likelyIs("one with water: 4 of 13", x, 3, 4, 13);
        x.lay(0);
        likelyIs("its own, too: 6 of 19", x, 0, 6, 19);
        likelyIs("a glass: 3 of 19", x, 2, 3, 19);
        x.go(0, 1);
        likelyIs("alone there: 1 of 1", x, 4, 1, 1);
        doc.promises(15, "LIKELY, part 0 above, 1 below the line.");
        likelyIs("alone there, 6 of 6", x, 4, 1, 1);
        x.go(0, 0);
        likelyIs("4 of 19", x, 3, 4, 19);
        WhoseGlass care = Houses.of("g0290;g0290;g0390;p11090;h000;");
        likelyIs("whatever its care", care, 1, 3, 4);
    }

    private void likelyInLeastTerms() {
        doc.says("a fraction in least terms (0 by 1, if all are 0).");
        WhoseGlass half = Houses.of("g0290;g0290;g0290;p11000;h000;");
        likelyIs("3 of 6", half, 1, 1, 2);
        WhoseGlass fifths = Houses.of("g2290;g2290;g4390;p11000;h000;");
        likelyIs("6 of 10", fifths, 1, 3, 5);
        likelyIs("4 of 10", fifths, 2, 2, 5);
        WhoseGlass poured = Houses.of("g7290;g7200;g7290;g7390;p11000;h000;");
        likelyIs("0 of 12", poured, 1, 0, 1);
        likelyIs("7 of 12", poured, 2, 7, 12);
        likelyIs("5 of 12", poured, 3, 5, 12);
        WhoseGlass marked = Houses.of("g1290;g0290;p11000;h000;");
        likelyIs("0 of 0", marked, 1, 0, 1);
        marked.lay(0);
        likelyIs("0 of 20", marked, 1, 0, 1);
        likelyIs("20 of 20", marked, 0, 1, 1);
    }

    private void likelyRefused() {
        doc.promises(15, "-1, -3: the guest has no OWN, the GLASS isn't LAID there.");
        WhoseGlass x = Houses.of("g0290;g0290;g0291;g0290;p11000;p11000;h000;");
        int[] guests = {LEAST, -1, 2, 6, MOST};
        for (int guest : guests) {
            doc.due("likely(" + guest + ", 1, 0)", x.likely(guest, 1, 0), -1);
        }
        int[] glasses = {LEAST, -1, 4, 12, MOST};
        for (int glass : glasses) {
            doc.due("likely(0, " + glass + ", 0)", x.likely(0, glass, 0), -1);
        }
        int[] parts = {LEAST, -1, 2, MOST};
        for (int part : parts) {
            doc.due("likely(0, 1, " + part + ")", x.likely(0, 1, part), -1);
        }
        doc.due("it is laid there", x.likely(0, 1, 0), 1);
        doc.due("no own", x.likely(1, 1, 0), -3);
        doc.due("laid elsewhere", x.likely(0, 2, 0), -3);
        doc.due("in a hand", x.likely(0, 0, 0), -3);
        x.go(0, 1);
        x.clear(0, 0);
        x.go(0, 0);
        doc.due("in the sink", x.likely(0, 3, 0), -3);
    }

    private void idle() {
        doc.says("IDLE of a PLACE: how many LAID there are no guest's OWN.");
        WhoseGlass x = Houses.of("g0290;g0290;g0295;g0290;p11000;p11000;h000;");
        doc.due("two of four", x.idle(0), 2);
        x.lay(0);
        doc.due("an own one is not", x.idle(0), 2);
        Houses.read(x, "h103;");
        doc.due("one in a hand is not", x.idle(0), 1);
        x.lay(1);
        doc.due("the other guest's own is not", x.idle(0), 1);
        Houses.read(x, "h101;");
        doc.due("what was an own one is", x.idle(0), 1);
        x.clear(0, 0);
        doc.due("none in the sink", x.idle(0), 0);
        WhoseGlass first = Houses.of("g0290;p11000;");
        doc.due("the first glass is", first.idle(0), 1);
        Houses.read(first, "h000;");
        first.lay(0);
        doc.due("the first glass is its own", first.idle(0), 0);
        doc.promises(16, "IDLE.");
        doc.due("idle(5)", x.idle(5), 1);
        doc.due("idle(4)", x.idle(4), 0);
        doc.promises(16, "-1.");
        int[] places = {LEAST, -1, 6, 10, 20, MOST};
        for (int place : places) {
            doc.due("idle(" + place + ")", x.idle(place), -1);
        }
    }

    private void oldest() {
        doc.says("OLDEST of a PLACE: the GLASS LAID there first (of several the least); -4.");
        WhoseGlass x = Houses.of("g0291;m;g0290;g0290;p99000;h001;m;g0290;");
        doc.due("the only one laid there first", x.oldest(0), 2);
        x.lay(0);
        doc.due("laid anew, it is younger", x.oldest(0), 2);
        doc.due("the oldest goes to the sink", x.clear(0, 1), 1);
        doc.due("the least of one minute", x.oldest(0), 1);
        doc.due("none", x.oldest(2), -4);
        x.clear(0, 0);
        doc.due("none behind clearing", x.oldest(0), -4);
        doc.promises(17, "OLDEST; -4.");
        doc.due("oldest(1)", x.oldest(1), 0);
        doc.due("oldest(5)", x.oldest(5), -4);
        x.keep(0, 1, 0, 0);
        x.comes(0, 5);
        doc.due("oldest(5) then", x.oldest(5), 4);
        doc.promises(17, "-1.");
        int[] places = {LEAST, -1, 6, 10, 20, MOST};
        for (int place : places) {
            doc.due("oldest(" + place + ")", x.oldest(place), -1);
        }
    }
}
