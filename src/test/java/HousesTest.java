/** Promises 1 and 2: a new object, and houses read from texts with their faults. */
public final class HousesTest {

    private static final Check check = new Check("HousesTest");

    public static void main(String[] args) {
        beginsEmpty();
        readsStatements();
        addsToWhatThereIs();
        refusesShelves();
        tellsBrokenForms();
        tellsUndoneStatements();
        stopsAtTheLastMinute();
        bringsNothingWithAFault();
        check.end();
    }

    private static void beginsEmpty() {
        WhoseGlass x = new WhoseGlass();
        int[] want = {0, 0, 20, 0, 0, 0, 0, -1};
        for (int what = 0; what < want.length; what++) {
            check.due("count(" + what + ") of a new object", x.count(what), want[what]);
        }
        check.due("glass(0, 0) of a new object", x.glass(0, 0), -1);
        check.due("guest(0, 0) of a new object", x.guest(0, 0), -1);
    }

    private static void readsStatements() {
        WhoseGlass x = new WhoseGlass();
        check.due("six statements", Houses.read(x, "m;g3471;p12345;h000;c0;t7;"), 6);
        int[] glass = {3, 4, 7, 10, 0, 0, -4};
        for (int what = 0; what < glass.length; what++) {
            check.due("glass(0, " + what + ")", x.glass(0, what), glass[what]);
        }
        int[] guest = {1, 2, 3, 4, 5, 0, 0, 0, 1};
        for (int what = 0; what < guest.length; what++) {
            check.due("guest(0, " + what + ")", x.guest(0, what), guest[what]);
        }
        check.due("tray of one digit", x.count(2), 7);
        check.due("minute", x.count(3), 1);
        check.due("the text stays on its shelf", x.element(Houses.SHELF, 0), 'm');

        check.due("t07;", Houses.read(x, "t07;"), 1);
        check.due("tray of two digits", x.count(2), 7);
        check.due("t99;", Houses.read(x, "t99;"), 1);
        check.due("tray", x.count(2), 99);
        check.due("t0;", Houses.read(x, "t0;"), 1);
        check.due("tray", x.count(2), 0);

        WhoseGlass y = Houses.of("m;m;g0190;m;g0190;");
        check.due("laid at the minute of the statement", y.glass(0, 6), 2);
        check.due("laid at the minute of the other", y.glass(1, 6), 3);
        WhoseGlass cold = Houses.of("p11000;p11000;c1;c0;c0;");
        check.due("told again: no cold", cold.count(5), 2);
        WhoseGlass drinks = Houses.of("p11000;m;m;");
        check.due("guests live in these minutes", drinks.glass(0, 2), 8);
        WhoseGlass far = Houses.of("g0194;p11000;h000;");
        check.due("held from another place", far.glass(0, 3), 10);
        WhoseGlass twelve = Houses.of("g0000;g0000;g0000;g0000;g0000;g0000;g0000;g0000;g0000;g0000;g0000;g7995;p99995;h011;");
        check.due("glass 11 is held", twelve.guest(0, 5), 11);
    }

    private static void addsToWhatThereIs() {
        WhoseGlass x = Houses.of("g0190;p11000;");
        check.due("another house", Houses.read(x, "g1290;p22001;h001;h100;"), 4);
        check.due("glasses", x.count(0), 2);
        check.due("guest 0 holds", x.guest(0, 5), 1);
        check.due("guest 1 holds", x.guest(1, 5), 0);
        WhoseGlass sunk = Houses.of("g0190;p11000;");
        sunk.clear(0, 0);
        check.due("what is in the sink can't be held", Houses.read(sunk, "h000;"), -2000);
    }

    private static void refusesShelves() {
        WhoseGlass x = new WhoseGlass();
        check.due("house(-1)", x.house(-1), -1);
        check.due("house(8)", x.house(8), -1);
        check.due("house of nothing", x.house(0), -11);
        x.keep(0, 1, 0, 0);
        check.due("house of a glass", x.house(0), -12);
        for (int sort = 1; sort < 3; sort++) {
            Houses.numbers(x, 0, sort, 'm', ';');
            check.due("house of a row of sort " + sort, x.house(0), -12);
        }
        Houses.numbers(x, 0, 0, 'm' + 256, ';' - 256);
        check.due("house of lowest bits", x.house(0), 1);
    }

    private static void tellsBrokenForms() {
        String[] texts = {"", ";", "x;", "G0000;", "g", "g;", "g0000", "g000;", "g00000;", "g0:00;", "g0/00;", "m", "mm;",
            "m;m", "m;;", "m; m;", "m;\n", " m;", "t", "t;", "t1", "t12", "t123;", "tx;", "t1x;", "c", "c;", "c00;",
            "h00;", "h0000;", "p1111;", "p111111;", "g9999;p00000;x", "c0;h0", "0;", "m0;"};
        int[] places = {0, 0, 0, 0, 1, 1, 5, 4, 5, 2, 2, 1, 1,
            3, 2, 2, 2, 0, 1, 1, 2, 3, 3, 1, 2, 1, 1, 2,
            3, 4, 5, 6, 13, 5, 0, 1};
        WhoseGlass x = new WhoseGlass();
        for (int i = 0; i < texts.length; i++) {
            check.due("house of \"" + texts[i] + "\"", Houses.read(x, texts[i]), -1000 - places[i]);
        }
        Houses.numbers(x, 0, 0, -1, 'm', ';');
        check.due("house of byte -1", x.house(0), -1000);
        Houses.numbers(x, 0, 0, 'm', ';', 0);
        check.due("house with a byte 0", x.house(0), -1002);
        // A shorter row must not be read on into what a longer one held there.
        Houses.numbers(x, 0, 0, 'm', ';', 'm', ';');
        x.row(0, 0, 1);
        x.put(0, 0, 'm');
        check.due("house of the shorter row", x.house(0), -1001);
        check.due("nothing has come", x.count(0) + x.count(1) + x.count(3), 0);
    }

    private static void tellsUndoneStatements() {
        String guest = "p11000;";
        String glass = "g0000;";
        String[] texts = {"g8000;", "g9000;", "g0006;", "g0009;", "p01000;", "p10000;", "p11006;", "h000;", "c0;",
            guest + "h000;", glass + "h000;", glass + guest + "h001;", glass + guest + "h010;", glass + guest + "h100;",
            glass + guest + "c1;", glass + glass + guest + "h000;h001;", glass + guest + guest + "h000;h100;",
            glass.repeat(13), guest.repeat(7), guest + "h000;" + glass, "m;m;g8000;g9000;"};
        int[] places = {0, 0, 0, 0, 0, 0, 0, 0, 0,
            7, 6, 13, 13, 13,
            13, 24, 25,
            72, 42, 7, 4};
        // Not all on one object: what it answers behind 512 calls is free.
        for (int i = 0; i < texts.length; i++) {
            check.due("house of " + texts[i], Houses.read(new WhoseGlass(), texts[i]), -2000 - places[i]);
        }
        WhoseGlass x = new WhoseGlass();
        check.due("kind 1 goes ahead", Houses.read(x, "g9000;m"), -1007);
        check.due("twelve glasses", Houses.read(x, glass.repeat(12)), 12);
        check.due("six guests", Houses.read(x, guest.repeat(6)), 6);
        check.due("a glass more", Houses.read(x, glass), -2000);
        check.due("a guest more", Houses.read(x, guest), -2000);
    }

    private static void stopsAtTheLastMinute() {
        WhoseGlass x = new WhoseGlass();
        for (int k = 0; k < 10; k++) {
            x.minutes(99);
        }
        check.due("minute 998", Houses.read(x, "m;m;m;m;m;m;m;m;"), 8);
        check.due("minute 1000 is above", Houses.read(x, "g0000;m;m;"), -2008);
        check.due("no glass has come", x.count(0), 0);
        check.due("minute 999", Houses.read(x, "m;"), 1);
        check.due("minute", x.count(3), 999);
        check.due("another one", Houses.read(x, "m;"), -2000);
    }

    private static void bringsNothingWithAFault() {
        WhoseGlass x = Houses.of("g0190;p11000;h000;");
        check.due("a fault at the end", Houses.read(x, "m;c0;t5;g0000;p11000;h101;g8000;"), -2026);
        int[] want = {1, 1, 20, 0, 9, 0, 0};
        for (int what = 0; what < want.length; what++) {
            check.due("count(" + what + ") behind a fault", x.count(what), want[what]);
        }
        check.due("no sip behind a fault", x.guest(0, 7), 0);
    }
}
