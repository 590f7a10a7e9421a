/** Terms 1, what guests do: TAKES, SIP, a MINUTE. */
final class TakingSentences {

    private final Sentences doc;

    TakingSentences(Sentences doc) {
        this.doc = doc;
    }

    void tell() {
        withoutAnOwnOne();
        mostLike();
        severalMostLike();
        careAtLeast();
        noneSuch();
        fromTheTray();
        nothingFromTheTray();
        itsOwnThen();
        mistakes();
        sips();
        germs();
        inTheSink();
        guestByGuest();
        goesOn();
        sipsInAMinute();
        laysInAMinute();
        takesInAMinute();
        oneMinuteMore();
    }

    /** What guest 0, of place 0, takes when its own has been laid at place 5. */
    private static int taken(String house) {
        WhoseGlass x = Houses.of(house);
        x.go(0, 5);
        x.lay(0);
        x.go(0, 0);
        return x.take(0);
    }

    private void withoutAnOwnOne() {
        doc.says("A guest TAKES at its PLACE: without an OWN, or if its OWN is in the SINK, from the TRAY;");
        WhoseGlass x = Houses.of("g0990;p11000;");
        doc.due("without an own, though there is one", x.take(0), 1);
        doc.due("one less on the tray", x.count(2), 19);
        WhoseGlass sunk = Houses.of("g0195;g0190;p11000;h000;");
        sunk.go(0, 5);
        sunk.lay(0);
        doc.due("its own goes to the sink", sunk.clear(5, 0), 1);
        sunk.go(0, 0);
        doc.due("its own in the sink, though one is alike", sunk.take(0), 2);
        doc.due("one less on the tray there", sunk.count(2), 19);
    }

    private void mostLike() {
        doc.says("else of GLASSES LAID there the one to which its OWN is most LIKE");
        doc.due("alike goes ahead of not alike", taken("g0295;g0390;g0290;p11000;h000;"), 2);
        doc.due("whatever their order", taken("g0295;g0290;g0390;p11000;h000;"), 1);
        doc.due("and the last laid", taken("g0295;g0290;m;g0390;p11000;h000;"), 1);
        doc.due("by the kind of its own", taken("g2295;g0290;g2390;p11000;h000;"), 2);
        doc.due("not what is laid elsewhere", taken("g0295;g0291;g0390;p11000;h000;"), 2);
        doc.due("not what another one holds", taken("g0295;g0290;g0390;p11000;p11000;h000;h101;"), 2);
        WhoseGlass x = Houses.of("g0290;g0290;p11000;h000;");
        x.lay(0);
        doc.due("its own, for it is the least of two alike", x.take(0), 0);
        WhoseGlass y = Houses.of("g0291;g0390;p11001;h000;");
        y.clear(0, 0);
        y.go(0, 2);
        y.lay(0);
        y.go(0, 0);
        doc.due("not what is in the sink", y.take(0), 2);
    }

    private void severalMostLike() {
        doc.says("(of several the last LAID, then the least),");
        doc.due("the last laid", taken("g0295;g0390;m;g0490;p11000;h000;"), 2);
        doc.due("the least of those", taken("g0295;g0390;m;g0490;g0590;p11000;h000;"), 2);
        doc.due("the least, laid in one minute", taken("g0295;g0490;g0590;g0690;p11000;h000;"), 1);
        // Glass 1 is laid down anew, a minute behind glass 2.
        WhoseGlass x = Houses.of("g0295;g0490;g0590;p99005;p99000;h000;h101;m;");
        x.lay(0);
        x.lay(1);
        x.go(0, 0);
        doc.due("the last laid of three", x.take(0), 1);
        WhoseGlass y = Houses.of("g0290;m;g0290;p99000;p99000;h000;m;");
        y.lay(0);
        doc.due("its own, for it was laid last", y.mine(0), 0);
        WhoseGlass z = Houses.of("g0290;p99000;h000;m;g0290;");
        z.lay(0);
        doc.due("its own, the least of one minute", z.mine(0), 0);
    }

    private void careAtLeast() {
        doc.says("if that is CARE at least and above 0;");
        doc.due("care 3 of like 3", taken("g0295;g0290;p11030;h000;"), 1);
        doc.due("care 4 of like 3", taken("g0295;g0290;p11040;h000;"), 2);
        doc.due("care 0 of like 1", taken("g0295;g0390;p11000;h000;"), 1);
        doc.due("care 1 of like 1", taken("g0295;g0390;p11010;h000;"), 1);
        doc.due("care 2 of like 1", taken("g0295;g0390;p11020;h000;"), 2);
        doc.due("care 0 of like 0", taken("g1295;g0290;p11000;h000;"), 2);
        doc.due("care 7 of like 7", taken("g3295;g3290;p11070;h000;"), 1);
        doc.due("care 8 of like 7", taken("g3295;g3290;p11080;h000;"), 2);
        doc.due("care 0 of an empty one to a poured one", taken("g7295;g7200;p11000;h000;"), 2);
        WhoseGlass own = Houses.of("g6290;g7290;g0290;p11090;p11070;p11090;h000;h101;h202;");
        own.lay(0);
        doc.due("care 9 of like 14 to itself", own.take(0), 0);
        own.lay(1);
        doc.due("care 7 of like 7 to itself", own.take(1), 1);
        own.lay(2);
        doc.due("care 9 of like 3 to itself", own.take(2), 3);
    }

    private void noneSuch() {
        doc.says("if there is none such, from the TRAY.");
        doc.due("nothing is laid there", taken("g0295;g0291;p11000;h000;"), 2);
        doc.due("nothing that it likes enough", taken("g0295;g0390;g0490;p11030;h000;"), 3);
        doc.due("nothing that it likes", taken("g5295;g0290;g1290;p11000;h000;"), 3);
    }

    private void fromTheTray() {
        doc.says("From the TRAY: one less there, a GLASS more (KIND 0, FIGURE as many as are left there, modulo 10, FILL 9) "
                + "in its hand, its OWN;");
        int[] left = {1, 2, 9, 10, 11, 12, 20, 21, 99};
        int[] figures = {0, 1, 8, 9, 0, 1, 9, 0, 8};
        for (int k = 0; k < left.length; k++) {
            WhoseGlass x = Houses.of("g5340;p11003;t" + left[k] + ";");
            doc.due("take(0) from " + left[k], x.take(0), 1);
            doc.due("one less", x.count(2), left[k] - 1);
            int[] want = {0, figures[k], 9, 10, 0, 0, -4};
            for (int what = 0; what < want.length; what++) {
                doc.due("glass(1, " + what + ") from " + left[k], x.glass(1, what), want[what]);
            }
            doc.due("it holds it", x.guest(0, 5), 1);
            doc.due("its own", x.guest(0, 6), 1);
        }
    }

    private void nothingFromTheTray() {
        doc.says("nothing, if the TRAY is empty, or there is no room.");
        WhoseGlass x = Houses.of("p11000;p11000;t1;");
        doc.due("the last one", x.take(0), 0);
        doc.due("none is left", x.take(1), -4);
        doc.due("it holds none", x.guest(1, 5), -4);
        doc.due("it has no own", x.guest(1, 6), -4);
        doc.due("no glass more", x.count(0), 1);
        doc.due("the tray stays empty", x.count(2), 0);
        WhoseGlass full = Houses.of("g0190;".repeat(11) + "p11000;p11000;");
        doc.due("the twelfth", full.take(0), 11);
        doc.due("no room", full.take(1), -4);
        doc.due("the tray stays", full.count(2), 19);
        doc.due("glasses", full.count(0), 12);
        full.minutes(3);
        doc.due("nor in minutes", full.count(2), 19);
    }

    private void itsOwnThen() {
        doc.says("What it takes is its OWN then;");
        WhoseGlass x = Houses.of("g0295;g0390;p11005;h000;");
        x.lay(0);
        x.go(0, 0);
        x.take(0);
        doc.due("another one", x.guest(0, 6), 1);
        x.go(0, 5);
        doc.due("what is like that", x.mine(0), 0);
        x.go(0, 1);
        x.lay(0);
        x.go(0, 2);
        x.take(0);
        doc.due("one from the tray", x.guest(0, 6), 2);
    }

    /** Mistakes of one minute in which guest 0, of a place, has laid its own at place 5. */
    private static int mistakesAt(int place, String house) {
        WhoseGlass x = Houses.of(house);
        x.go(0, 5);
        x.lay(0);
        x.go(0, place);
        return x.mistakes(1);
    }

    private void mistakes() {
        doc.says("a MISTAKE, if that was another one than its OWN, LAID there.");
        doc.due("another one", mistakesAt(0, "g0295;g0290;p99000;h000;"), 1);
        doc.due("its own", mistakesAt(5, "g0295;g0290;p99000;h000;"), 0);
        doc.due("from the tray", mistakesAt(1, "g0295;g0290;p99000;h000;"), 0);
        doc.due("nothing", mistakesAt(1, "g0295;g0290;p99000;h000;t0;"), 0);
        WhoseGlass x = Houses.of("p99000;");
        doc.due("from the tray, without an own", x.mistakes(1), 0);
    }

    private void sips() {
        doc.says("To SIP: FILL is one less, HAD more by STRENGTH, it is one of those who SIPPED it;");
        WhoseGlass x = Houses.of("g3490;p11000;p11000;p11000;p11000;p11000;p11000;h500;");
        doc.due("sip(5)", x.sip(5), 6);
        doc.due("fill", x.glass(0, 2), 8);
        doc.due("had", x.guest(5, 7), 6);
        doc.due("sipped by guest 5", x.glass(0, 4), 32);
        x.sip(5);
        doc.due("fill again", x.glass(0, 2), 7);
        doc.due("had again", x.guest(5, 7), 12);
        doc.due("by guest 5 still", x.glass(0, 4), 32);
        x.lay(5);
        Houses.read(x, "h000;");
        doc.due("held is not sipped", x.glass(0, 4), 32);
        x.sip(0);
        doc.due("by guest 0, too", x.glass(0, 4), 33);
        doc.due("guest 5 has had no more", x.guest(5, 7), 12);
        WhoseGlass water = Houses.of("g4110;p11000;h000;");
        doc.due("water", water.sip(0), 0);
        doc.due("its last one", water.glass(0, 2), 0);
        doc.due("sipped, though of strength 0", water.glass(0, 4), 1);
    }

    private void germs() {
        doc.says("if the GLASS has GERMS, it has a COLD then; if it has one (by that, too), the GLASS has GERMS "
                + "(none at first).");
        WhoseGlass x = Houses.of("g4190;g0190;p11000;p11000;p11000;h000;h101;");
        doc.due("none at first", x.glass(0, 5), 0);
        x.sip(0);
        doc.due("no germs without a cold", x.glass(0, 5), 0);
        Houses.read(x, "c0;");
        doc.due("none by the cold alone", x.glass(0, 5), 0);
        x.sip(0);
        doc.due("germs by a sip", x.glass(0, 5), 1);
        x.lay(0);
        Houses.read(x, "h200;");
        doc.due("no cold by holding", x.guest(2, 8), 0);
        x.sip(2);
        doc.due("a cold by germs", x.guest(2, 8), 1);
        doc.due("the glass keeps them", x.glass(0, 5), 1);
        doc.due("not guest 1", x.guest(1, 8), 0);
        doc.due("not its glass", x.glass(1, 5), 0);
        x.lay(2);
        x.lay(1);
        Houses.read(x, "h201;");
        x.sip(2);
        doc.due("germs by the cold that came by germs", x.glass(1, 5), 1);
    }

    private void inTheSink() {
        doc.says("In the SINK nobody has SIPPED it, it has no GERMS, FILL 0.");
        WhoseGlass x = Houses.of("g3590;p11000;c0;h000;");
        x.sip(0);
        x.lay(0);
        doc.due("sipped by", x.glass(0, 4), 1);
        doc.due("germs", x.glass(0, 5), 1);
        x.clear(0, 0);
        int[] want = {3, 5, 0, 20, 0, 0, -4};
        for (int what = 0; what < want.length; what++) {
            doc.due("in the sink, glass(0, " + what + ")", x.glass(0, what), want[what]);
        }
        doc.due("guest 0 has a cold still", x.guest(0, 8), 1);
        doc.due("had stays", x.guest(0, 7), 7);
    }

    private void guestByGuest() {
        doc.says("A MINUTE t: guest by guest, by numbers:");
        WhoseGlass tray = Houses.of("p99000;p99000;t1;");
        tray.minutes(1);
        doc.due("guest 0 takes the last one", tray.guest(0, 5), 0);
        doc.due("guest 1 takes nothing", tray.guest(1, 5), -4);
        // At minute 1 one of them lays its glass down, the other one's own is far off.
        WhoseGlass x = Houses.of("g0190;g0195;p91000;p99005;h000;h101;m;");
        x.lay(1);
        x.go(1, 0);
        x.minutes(1);
        doc.due("what guest 0 lays is there for guest 1", x.guest(1, 5), 0);
        WhoseGlass y = Houses.of("g0190;g0195;p99005;p91000;h001;h100;m;");
        y.lay(0);
        y.go(0, 0);
        y.minutes(1);
        doc.due("what guest 1 lays is not yet there for guest 0", y.guest(0, 5), 2);
        doc.due("it has laid it", y.glass(0, 3), 0);
    }

    private void goesOn() {
        doc.says("if STEP is above 0, and t is one of its multiples, but 0, it goes to the next PLACE (5: to 0);");
        int[][] want = {
            {4, 4, 4, 4, 4, 4, 4, 4, 4, 4, 4},
            {4, 5, 0, 1, 2, 3, 4, 5, 0, 1, 2},
            {4, 4, 5, 5, 0, 0, 1, 1, 2, 2, 3},
            {4, 4, 4, 5, 5, 5, 0, 0, 0, 1, 1}};
        for (int step = 0; step < want.length; step++) {
            WhoseGlass x = Houses.of("p99" + step + "04;");
            for (int t = 0; t < want[step].length; t++) {
                x.minutes(1);
                doc.due("step " + step + ", behind minute " + t, x.guest(0, 4), want[step][t]);
            }
        }
        WhoseGlass nine = Houses.of("p99904;");
        nine.minutes(9);
        doc.due("step 9, behind minute 8", nine.guest(0, 4), 4);
        nine.minutes(1);
        doc.due("step 9, behind minute 9", nine.guest(0, 4), 5);
    }

    private void sipsInAMinute() {
        doc.says("then, if it HOLDS one: it SIPS, if t is a multiple of PACE and FILL is above 0;");
        int[][] want = {
            {2, 4, 6, 8, 10, 12},
            {2, 2, 4, 4, 6, 6},
            {2, 2, 2, 4, 4, 4}};
        for (int pace = 1; pace <= want.length; pace++) {
            WhoseGlass x = Houses.of("g0290;p" + pace + "9000;h000;");
            for (int t = 0; t < want[pace - 1].length; t++) {
                x.minutes(1);
                doc.due("pace " + pace + ", had behind minute " + t, x.guest(0, 7), want[pace - 1][t]);
            }
        }
        WhoseGlass nine = Houses.of("g0290;p99000;h000;");
        nine.minutes(9);
        doc.due("pace 9, behind minute 8", nine.guest(0, 7), 2);
        nine.minutes(1);
        doc.due("pace 9, behind minute 9", nine.guest(0, 7), 4);
        WhoseGlass last = Houses.of("g0210;p19000;h000;");
        last.minutes(1);
        doc.due("fill 1 is sipped", last.guest(0, 7), 2);
        last.minutes(1);
        doc.due("fill 0 is not", last.guest(0, 7), 2);
        doc.due("fill stays 0", last.glass(0, 2), 0);
        WhoseGlass empty = Houses.of("g0200;p19000;h000;");
        empty.minutes(1);
        doc.due("an empty one from the beginning", empty.glass(0, 4), 0);
        WhoseGlass none = Houses.of("p19000;t0;");
        none.minutes(3);
        doc.due("without a glass", none.guest(0, 7), 0);
    }

    private void laysInAMinute() {
        doc.says("then it LAYS it down there, if t is a multiple of LAYS, but 0;");
        WhoseGlass x = Houses.of("g0290;p11104;h000;");
        x.minutes(1);
        doc.due("not at minute 0", x.glass(0, 3), 10);
        x.minutes(1);
        doc.due("at minute 1, where it has gone", x.glass(0, 3), 5);
        doc.due("laid at that minute", x.glass(0, 6), 1);
        doc.due("it has sipped ahead of that", x.guest(0, 7), 4);
        doc.due("it holds none", x.guest(0, 5), -4);
        int[] where = {10, 10, 10, 0, 10, 10, 0, 10, 10, 0};
        WhoseGlass three = Houses.of("g0290;p93000;h000;");
        for (int t = 0; t < where.length; t++) {
            three.minutes(1);
            doc.due("lays 3, behind minute " + t, three.glass(0, 3), where[t]);
        }
        WhoseGlass nine = Houses.of("g0290;p99000;h000;");
        nine.minutes(9);
        doc.due("lays 9, behind minute 8", nine.glass(0, 3), 10);
        nine.minutes(1);
        doc.due("lays 9, behind minute 9", nine.glass(0, 3), 0);
        WhoseGlass empty = Houses.of("g0200;p91000;h000;m;");
        empty.minutes(1);
        doc.due("an empty one is laid, too", empty.glass(0, 3), 0);
    }

    private void takesInAMinute() {
        doc.says("if it HOLDS none (ahead of this), it TAKES.");
        WhoseGlass x = Houses.of("p11000;");
        x.minutes(1);
        doc.due("from the tray", x.glass(0, 3), 10);
        doc.due("no sip in that minute", x.guest(0, 7), 0);
        x.minutes(1);
        doc.due("sipped and laid in the next", x.glass(0, 3), 0);
        doc.due("not taken up in the one in which it was laid", x.guest(0, 5), -4);
        x.minutes(1);
        doc.due("taken up in the next", x.guest(0, 5), 0);
        doc.due("neither sipped nor laid in that", x.guest(0, 7), 2);
        WhoseGlass goes = Houses.of("g0290;g0391;p99100;h000;m;");
        goes.lay(0);
        goes.minutes(1);
        doc.due("it takes where it has gone", goes.guest(0, 5), 1);
    }

    private void oneMinuteMore() {
        doc.says("MINUTE is one more.");
        WhoseGlass x = Houses.of("g0290;p91000;h000;");
        for (int t = 0; t < 4; t++) {
            doc.due("minutes(1)", x.minutes(1), t + 1);
            doc.due("count(3)", x.count(3), t + 1);
        }
        doc.due("laid ahead of the last one more", x.glass(0, 6), 3);
    }
}
