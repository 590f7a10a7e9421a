/** Terms 2, a house read from bytes and its faults; promises 1 and 2. */
final class TextSentences {

    private static final String GLASS = "g0000;";
    private static final String GUEST = "p11000;";

    private final Sentences doc;

    TextSentences(Sentences doc) {
        this.doc = doc;
    }

    void tell() {
        statementsBehindOneAnother();
        glassStatements();
        guestStatements();
        holdStatements();
        coldStatements();
        trayStatements();
        minuteStatements();
        atLeastOne();
        firstByteThatCantGoOn();
        endsTooEarly();
        numbersOutOfRange();
        noSuchThing();
        holdsOneAlready();
        notLaid();
        noRoom();
        minuteAbove();
        faultsAsNumbers();
        allOrNothing();
        sums();
        kindOneAhead();
        oneBehindTheOther();
        newObject();
        houseAnswers();
        houseRefuses();
    }

    private void reads(String text, int want) {
        doc.due("house of \"" + text + "\"", Houses.read(new WhoseGlass(), text), want);
    }

    private void statementsBehindOneAnother() {
        doc.says("A HOUSE is read from bytes: STATEMENTS, each with ; behind:");
        reads("m;", 1);
        reads("m;m;m;", 3);
        reads("m", -1001);
        reads("m;m", -1003);
        reads("mm;", -1001);
        reads("m,", -1001);
        reads(";m;", -1000);
        reads("m;;", -1002);
        reads("m; m;", -1002);
        reads("g0000p11000;", -1005);
        reads("M;", -1000);
        WhoseGlass x = new WhoseGlass();
        Houses.numbers(x, 0, 0, 'm' - 256, ';' + 256);
        doc.due("house of the bytes that are kept", x.house(0), 1);
        Houses.numbers(x, 0, 0, 'm', ';' - 128);
        doc.due("house of a byte below 0", x.house(0), -1001);
    }

    private void glassStatements() {
        doc.says("g, KIND, FIGURE, FILL, a PLACE (a digit each): a GLASS more, LAID there now;");
        WhoseGlass x = new WhoseGlass();
        doc.due("two of them", Houses.read(x, "m;g0000;m;g7995;"), 4);
        int[] least = {0, 0, 0, 0, 0, 0, 1};
        int[] most = {7, 9, 9, 5, 0, 0, 2};
        for (int what = 0; what < least.length; what++) {
            doc.due("the least, glass(0, " + what + ")", x.glass(0, what), least[what]);
            doc.due("the most, glass(1, " + what + ")", x.glass(1, what), most[what]);
        }
        doc.due("glasses", x.count(0), 2);
        badDigits("g0000;", 4);
        reads("g000;", -1004);
        reads("g00000;", -1005);
    }

    /** Signs next to the digits, and letters, in the place of each digit behind a letter. */
    private void badDigits(String statement, int digits) {
        char[] signs = {'/', ':', ' ', '-', 'm', ';'};
        for (int at = 1; at <= digits; at++) {
            for (char sign : signs) {
                String bad = statement.substring(0, at) + sign + statement.substring(at + 1);
                reads(bad, -1000 - at);
                reads("m;" + bad, -1002 - at);
            }
        }
    }

    private void guestStatements() {
        doc.says("p, PACE, LAYS, STEP, CARE, a PLACE (a digit each): a guest more;");
        WhoseGlass x = new WhoseGlass();
        doc.due("three of them", Houses.read(x, "p11000;p99995;p12345;"), 3);
        int[][] want = {
            {1, 1, 0, 0, 0, -4, -4, 0, 0},
            {9, 9, 9, 9, 5, -4, -4, 0, 0},
            {1, 2, 3, 4, 5, -4, -4, 0, 0}};
        for (int i = 0; i < want.length; i++) {
            for (int what = 0; what < want[i].length; what++) {
                doc.due("guest(" + i + ", " + what + ")", x.guest(i, what), want[i][what]);
            }
        }
        doc.due("guests", x.count(1), 3);
        badDigits("p11000;", 5);
        reads("p1100;", -1005);
        reads("p110000;", -1006);
    }

    private void holdStatements() {
        doc.says("h, a guest (1 digit), a GLASS (2 digits): it HOLDS that (which is LAID somewhere), its OWN;");
        WhoseGlass x = Houses.of("g0000;g0195;" + "g0000;".repeat(9) + "g0000;p11002;p11003;");
        doc.due("a glass of another place", Houses.read(x, "h001;"), 1);
        doc.due("guest 0 holds it", x.guest(0, 5), 1);
        doc.due("its own", x.guest(0, 6), 1);
        doc.due("in its hand", x.glass(1, 3), 10);
        doc.due("no more laid", x.glass(1, 6), -4);
        doc.due("it stays where it was", x.guest(0, 4), 2);
        doc.due("not sipped", x.glass(1, 4) + x.guest(0, 7), 0);
        doc.due("the last glass", Houses.read(x, "h111;"), 1);
        doc.due("guest 1 holds it", x.guest(1, 5), 11);
        x.lay(0);
        doc.due("another own than before", Houses.read(x, "h000;"), 1);
        doc.due("that is its own now", x.guest(0, 6), 0);
        badDigits("h000;", 3);
        reads("h00;", -1003);
        reads("h0000;", -1004);
    }

    private void coldStatements() {
        doc.says("c, a guest: it has a COLD (told again: not);");
        WhoseGlass x = Houses.of(GUEST.repeat(6));
        int[] guests = {0, 5, 0, 5, 5};
        int[] colds = {1, 33, 32, 0, 32};
        for (int k = 0; k < guests.length; k++) {
            doc.due("c" + guests[k] + ";", Houses.read(x, "c" + guests[k] + ";"), 1);
            doc.due("colds", x.count(5), colds[k]);
        }
        doc.due("thrice in one text", Houses.read(x, "c1;c1;c1;"), 3);
        doc.due("colds behind that", x.count(5), 34);
        badDigits("c0;", 1);
        reads("c00;", -1002);
    }

    private void trayStatements() {
        doc.says("t, TRAY (1 or 2 digits);");
        WhoseGlass x = new WhoseGlass();
        String[] texts = {"t0;", "t9;", "t00;", "t07;", "t10;", "t70;", "t99;"};
        int[] left = {0, 9, 0, 7, 10, 70, 99};
        for (int k = 0; k < texts.length; k++) {
            doc.due(texts[k], Houses.read(x, texts[k]), 1);
            doc.due("left behind " + texts[k], x.count(2), left[k]);
        }
        badDigits("t5;", 1);
        reads("t", -1001);
        reads("t1", -1002);
        reads("t12", -1003);
        reads("t1:;", -1002);
        reads("t1/;", -1002);
        reads("t100;", -1003);
    }

    private void minuteStatements() {
        doc.says("m: a MINUTE.");
        WhoseGlass x = new WhoseGlass();
        doc.due("m;", Houses.read(x, "p13000;m;m;m;m;"), 5);
        doc.due("minute", x.count(3), 4);
        doc.due("guests live in them", x.guest(0, 7), 6);
        doc.due("it has laid its glass at minute 3", x.glass(0, 6), 3);
        reads("m0;", -1001);
    }

    private void atLeastOne() {
        doc.says("At least one STATEMENT.");
        reads("", -1000);
        reads("m;", 1);
    }

    private void firstByteThatCantGoOn() {
        doc.says("FAULT: kind 1 the place of the first byte with which no HOUSE can go on");
        reads("x", -1000);
        reads("0;", -1000);
        reads("m;x;", -1002);
        reads("g0000;p11000;h000;c0;t5;m;G", -1026);
        reads("g9999;x", -1006);
        reads("p00000x", -1006);
        String letters = "gphctm";
        for (int sign = -128; sign < 128; sign++) {
            WhoseGlass x = new WhoseGlass();
            Houses.numbers(x, 0, 0, sign);
            boolean isLetter = sign > 0 && letters.indexOf(sign) >= 0;
            doc.due("house of byte " + sign, x.house(0), isLetter ? -1001 : -1000);
        }
    }

    private void endsTooEarly() {
        doc.says("(the size, if it ends too early);");
        String[] whole = {"g0000;", "p11000;", "h000;", "c0;", "t10;", "m;"};
        for (String statement : whole) {
            for (int size = 0; size < statement.length(); size++) {
                reads(statement.substring(0, size), -1000 - size);
                int behind = size == 0 ? 1 : -1002 - size;
                reads("m;" + statement.substring(0, size), behind);
            }
        }
        // What a longer row held there before is not read.
        WhoseGlass x = new WhoseGlass();
        Houses.shelve(x, 0, "m;m;");
        x.row(0, 0, 3);
        x.put(0, 0, 'm');
        x.put(0, 1, ';');
        x.put(0, 2, 'm');
        doc.due("house of a shorter row", x.house(0), -1003);
        reads("m;".repeat(49) + "m", -1099);
        reads("m;".repeat(49) + "c0", -1100);
    }

    private void numbersOutOfRange() {
        doc.says("else kind 2 the place of the letter of the first STATEMENT that isn't as told (a number out of range,");
        String[] texts = {"g8000;", "g9000;", "g0006;", "g0009;", "p01000;", "p10000;", "p00000;", "p11006;", "p11009;"};
        for (String text : texts) {
            reads(text, -2000);
            reads("m;" + text, -2002);
            reads("m;" + text + text, -2002);
        }
        String[] edges = {"g7000;", "g0005;", "p11000;", "p99995;", "g0990;", "t0;", "t99;"};
        for (String text : edges) {
            reads(text, 1);
        }
    }

    private void noSuchThing() {
        doc.says("no such guest, GLASS,");
        reads("c0;", -2000);
        reads(GUEST + "c0;", 2);
        reads(GUEST + "c1;", -2007);
        reads(GUEST + "c9;", -2007);
        reads(GLASS + "h000;", -2006);
        reads(GLASS + GUEST + "h000;", 3);
        reads(GLASS + GUEST + "h100;", -2013);
        reads(GUEST + "h000;", -2007);
        reads(GLASS + GUEST + "h001;", -2013);
        reads(GLASS + GUEST + "h010;", -2013);
        reads(GLASS + GUEST + "h099;", -2013);
        reads(GLASS.repeat(12) + GUEST + "h011;", 14);
        reads(GLASS.repeat(12) + GUEST + "h012;", -2079);
        reads(GUEST.repeat(6) + "c5;", 7);
        reads(GUEST.repeat(6) + "c6;", -2042);
        reads(GUEST.repeat(6) + GLASS + "h600;", -2048);
    }

    private void holdsOneAlready() {
        doc.says("one that HOLDS one,");
        reads(GLASS + GLASS + GUEST + "h000;h001;", -2024);
        reads(GUEST + GLASS + "m;h000;", -2015);
        WhoseGlass x = Houses.of(GLASS + GLASS + GUEST + "h000;");
        x.lay(0);
        doc.due("it holds none now", Houses.read(x, "h001;"), 1);
    }

    private void notLaid() {
        doc.says("a GLASS that isn't LAID,");
        reads(GLASS + GUEST + GUEST + "h000;h100;", -2025);
        WhoseGlass x = Houses.of(GLASS + GLASS + GUEST);
        Houses.read(x, "h001;");
        x.clear(0, 0);
        x.lay(0);
        doc.due("one in the sink", Houses.read(x, "h000;"), -2000);
        doc.due("one that is laid", Houses.read(x, "h001;"), 1);
    }

    private void noRoom() {
        doc.says("no room,");
        reads(GLASS.repeat(12), 12);
        reads(GLASS.repeat(13), -2072);
        reads(GUEST.repeat(6), 6);
        reads(GUEST.repeat(7), -2042);
        reads(GLASS.repeat(11) + GUEST + "m;" + GLASS, -2075);
        WhoseGlass x = Houses.of(GLASS.repeat(12));
        x.clear(0, 0);
        doc.due("what is in the sink makes no room", Houses.read(x, GLASS), -2000);
    }

    private static WhoseGlass atMinute(int minute) {
        WhoseGlass x = new WhoseGlass();
        for (int left = minute; left > 0; left -= 99) {
            x.minutes(Math.min(left, 99));
        }
        return x;
    }

    private void minuteAbove() {
        doc.says("MINUTE above 999):");
        doc.due("999", Houses.read(atMinute(998), "m;"), 1);
        doc.due("1000", Houses.read(atMinute(999), "m;"), -2000);
        doc.due("1000 by the second", Houses.read(atMinute(998), "m;m;"), -2002);
        WhoseGlass x = atMinute(999);
        doc.due("others at 999", Houses.read(x, GLASS + GUEST + "h000;c0;t1;"), 5);
        doc.due("minute", x.count(3), 999);
    }

    private void faultsAsNumbers() {
        doc.says("-1000 times the kind less the place.");
        reads("", -1000);
        reads("mm", -1001);
        reads("m;".repeat(50).substring(0, 99) + "m", -1099);
        reads("g8000;", -2000);
        reads("m;g8000;", -2002);
        reads("m;".repeat(47) + "g8000;", -2094);
        reads("m;".repeat(48) + "c0;", -2096);
        reads("m;".repeat(50), 50);
    }

    private void allOrNothing() {
        doc.says("Without FAULT all of it comes; with one nothing.");
        String first = "m;g3471;p12345;h000;c0;t7;";
        WhoseGlass x = new WhoseGlass();
        doc.due("without fault", Houses.read(x, first), 6);
        doc.same("all of it", Houses.told(x), "1 1 7 1 7 1 0 glass 3 4 7 10 0 0 -4 guest 1 2 3 4 5 0 0 0 1 ");
        doc.due("all of another one", Houses.read(x, "g1290;p99000;t8;"), 3);
        String before = Houses.told(x);
        doc.due("kind 2 at its end", Houses.read(x, "m;g0000;p11000;h203;c0;t99;g8000;"), -2027);
        doc.same("all behind kind 2", Houses.told(x), before);
        doc.due("kind 1 at its end", Houses.read(x, "m;g0000;p11000;h203;c0;t99;m"), -1028);
        doc.same("all behind kind 1", Houses.told(x), before);
    }

    private void sums() {
        doc.says("Said once more: \"a and b\" of two numbers is their sum;");
        WhoseGlass x = Houses.of("g3590;g7590;p11000;p11000;h000;h101;");
        doc.due("strength of a red one: 2 and figure 5", x.sip(0), 7);
        doc.due("of a poured one: that and 1", x.sip(1), 8);
        doc.due("in a guest's hand: 10 and the guest", x.glass(1, 3), 11);
        x.keep(0, 1, 7, 5);
        doc.due("cost of a poured one: times (5 and 1)", x.cost(0), 24);
        x.keep(0, 1, 1, 5);
        doc.due("cost of a marked one: 2 and 5", x.cost(0), 7);
    }

    private void kindOneAhead() {
        doc.says("kind 1 (of any place) goes ahead of kind 2;");
        reads("g8000;m", -1007);
        reads("g8000;", -2000);
        reads("c0;" + "m;".repeat(48) + "x", -1099);
        reads("p00000;g9999;h999;c9;t", -1022);
        reads("p00000;g9999;h999;c9;t5;", -2000);
    }

    private void oneBehindTheOther() {
        doc.says("STATEMENTS are tried one behind the other, each on what those ahead of it made, and the first that "
                + "can't be done so is told.");
        reads("g0000;p11000;h000;", 3);
        reads("h000;g0000;p11000;", -2000);
        reads("g0000;h000;p11000;", -2006);
        reads("c0;p11000;", -2000);
        reads("p11000;c0;", 2);
        reads("p11000;c1;g8000;", -2007);
        reads("p11000;c0;g8000;c1;", -2010);
        // At minute 0 it takes glass 0 from the tray, at minute 1 it lays it down, so that another one can hold it.
        reads("p11000;p99000;t1;m;h000;", -2019);
        reads("p11000;p99000;t1;m;m;h000;", 6);
        reads("p11000;m;g0000;h001;", -2015);
    }

    private void newObject() {
        doc.promises(1, "No GLASSES, no guests, 20 on the TRAY.");
        WhoseGlass x = new WhoseGlass();
        int[] want = {0, 0, 20, 0, 0, 0, 0};
        for (int what = 0; what < want.length; what++) {
            doc.due("count(" + what + ")", x.count(what), want[what]);
        }
        doc.due("glass(0, 0)", x.glass(0, 0), -1);
        doc.due("guest(0, 0)", x.guest(0, 0), -1);
    }

    private void houseAnswers() {
        doc.promises(2, "The text in SHELF d: how many STATEMENTS; the FAULT.");
        WhoseGlass x = new WhoseGlass();
        for (int d = 0; d < 8; d += 7) {
            Houses.shelve(x, d, "m;m;m;");
            doc.due("house(" + d + ")", x.house(d), 3);
            doc.due("house(" + d + ") once more", x.house(d), 3);
            Houses.shelve(x, d, "m;m;m");
            doc.due("house(" + d + ") with a fault", x.house(d), -1005);
        }
        doc.due("minute", x.count(3), 12);
        reads("g0000;p11000;h000;c0;t12;m;", 6);
    }

    private void houseRefuses() {
        doc.promises(2, "-1, -11, -12 (no ROW of bytes).");
        WhoseGlass x = new WhoseGlass();
        int[] shelves = {Integer.MIN_VALUE, -1, 8, Integer.MAX_VALUE};
        for (int d : shelves) {
            doc.due("house(" + d + ")", x.house(d), -1);
        }
        doc.due("house of nothing", x.house(7), -11);
        x.keep(7, 1, 0, 0);
        doc.due("house of a glass", x.house(7), -12);
        for (int sort = 0; sort < 3; sort++) {
            Houses.numbers(x, 7, sort, 'm', ';');
            doc.due("house of a row of sort " + sort, x.house(7), sort == 0 ? 1 : -12);
        }
        x.keep(7, 0, 0, 0);
        doc.due("house of nothing again", x.house(7), -11);
    }
}
