/** The image, what is counted, refusals of several kinds; promises 31 to 33. */
final class ImageSentences {

    private final Sentences doc;

    ImageSentences(Sentences doc) {
        this.doc = doc;
    }

    void tell() {
        image();
        promisedImage();
        promisedRestore();
        counts();
        rowsStay();
        shelvesStay();
        firstOfSeveral();
        refusedInOrder();
        changesNothing();
    }

    private void image() {
        doc.says("THE IMAGE: all that there is, but SHELVES (and THE IMAGE); RESTORED all is as it was then.");
        WhoseGlass x = Houses.of("g3490;g0291;p23412;h000;c0;t7;m;");
        String before = Houses.told(x);
        doc.due("image()", x.image(), 1);
        doc.same("all behind taking it", Houses.told(x), before);
        x.minutes(50);
        x.lay(0);
        x.clear(1, 0);
        Houses.read(x, "t50;p11000;g7990;c0;c1;");
        doc.due("another house", Houses.told(x).equals(before) ? 1 : 0, 0);
        doc.due("restore()", x.restore(), 1);
        doc.same("all", Houses.told(x), before);
        doc.due("a glass that came later", x.glass(3, 0), -1);
        doc.due("a guest that came later", x.guest(1, 0), -1);
        x.minutes(9);
        doc.due("restored again, for the image stays", x.restore(), 1);
        doc.same("all again", Houses.told(x), before);
        doc.due("the next glass has the number that it had then", Houses.read(x, "g0190;p11000;"), 2);
        doc.due("it is as new", x.glass(2, 4) + x.glass(2, 5) + x.guest(1, 7) + x.guest(1, 8), 0);
        doc.due("the guest, too", x.guest(1, 5) + x.guest(1, 6), -8);
        // What a guest and a glass had on them that came behind the image is not left to the next ones.
        WhoseGlass later = Houses.of("p99000;");
        later.image();
        Houses.read(later, "g3990;p11000;h100;c1;");
        doc.due("a later guest sips", later.sip(1), 11);
        doc.due("and again in mind", later.had(1, 1), 22);
        later.restore();
        Houses.read(later, "g0190;p22000;");
        int[] glass = {0, 1, 9, 0, 0, 0, 0};
        for (int what = 0; what < glass.length; what++) {
            doc.due("the new glass(0, " + what + ")", later.glass(0, what), glass[what]);
        }
        int[] guest = {2, 2, 0, 0, 0, -4, -4, 0, 0};
        for (int what = 0; what < guest.length; what++) {
            doc.due("the new guest(1, " + what + ")", later.guest(1, what), guest[what]);
        }
        WhoseGlass empty = new WhoseGlass();
        empty.image();
        Houses.read(empty, "g3190;p11000;c0;h000;t5;m;m;");
        empty.restore();
        doc.same("an image of nothing", Houses.told(empty), "0 0 20 0 0 0 0 ");
    }

    private void promisedImage() {
        doc.promises(31, "THE IMAGE is taken: MINUTE.");
        WhoseGlass x = new WhoseGlass();
        doc.due("image() at first", x.image(), 0);
        x.minutes(99);
        doc.due("image()", x.image(), 99);
        doc.due("image() again", x.image(), 99);
        x.minutes(1);
        doc.due("the newer one", x.restore(), 99);
    }

    private void promisedRestore() {
        WhoseGlass x = Houses.of("g0190;m;");
        doc.promises(32, "-3: there is none.");
        doc.due("restore() at first", x.restore(), -3);
        doc.due("it stays so", x.restore(), -3);
        x.image();
        doc.due("there is one", x.restore(), 1);
        doc.promises(32, "THE IMAGE is RESTORED: MINUTE.");
        x.minutes(20);
        doc.due("restore()", x.restore(), 1);
        doc.due("minute", x.count(3), 1);
        WhoseGlass first = new WhoseGlass();
        first.image();
        first.minutes(3);
        doc.due("restore() to minute 0", first.restore(), 0);
    }

    private void counts() {
        doc.promises(33, "0 GLASSES, 1 guests, 2 TRAY, 3 MINUTE, 4 all FILLS, 5 who has a COLD (bits), "
                + "6 how many are in the SINK;");
        WhoseGlass x = Houses.of("g0190;g0170;g0151;p19000;p19002;p19003;h000;c0;c2;t31;m;");
        int[] want = {5, 3, 29, 1, 38, 5, 0};
        for (int what = 0; what < want.length; what++) {
            doc.due("count(" + what + ")", x.count(what), want[what]);
        }
        x.clear(0, 0);
        x.clear(1, 0);
        int[] then = {5, 3, 29, 1, 26, 5, 2};
        for (int what = 0; what < then.length; what++) {
            doc.due("count(" + what + ") then", x.count(what), then[what]);
        }
        WhoseGlass first = Houses.of("g0190;g0191;");
        doc.due("none in the sink", first.count(6), 0);
        first.clear(0, 0);
        doc.due("the first glass in the sink", first.count(6), 1);
        first.clear(1, 0);
        doc.due("all in the sink", first.count(6), 2);
        doc.promises(33, "-1 for others.");
        int[] others = {Integer.MIN_VALUE, -1, 7, Integer.MAX_VALUE};
        for (int what : others) {
            doc.due("count(" + what + ")", x.count(what), -1);
        }
    }

    private void rowsStay() {
        doc.says("The ROW that is read, and what is taken from a SHELF, stay there;");
        WhoseGlass x = new WhoseGlass();
        Houses.shelve(x, 0, "g0193;g8000;");
        String faulty = Houses.toldOfShelf(x, 0);
        doc.due("a house with a fault", x.house(0), -2006);
        doc.same("its text", Houses.toldOfShelf(x, 0), faulty);
        Houses.shelve(x, 0, "g0193;");
        String text = Houses.toldOfShelf(x, 0);
        doc.due("a house", x.house(0), 1);
        doc.same("its text", Houses.toldOfShelf(x, 0), text);
        Houses.numbers(x, 1, 1, 3, -32768, 5);
        String told = Houses.toldOfShelf(x, 1);
        doc.due("judged", x.judge(0, 1), 2);
        doc.same("the told places", Houses.toldOfShelf(x, 1), told);
        x.row(2, 1, 3);
        x.copy(1, 0, 2, 0, 3);
        doc.same("what was copied", Houses.toldOfShelf(x, 1), told);
        x.keep(3, 1, 5, 4);
        String glass = Houses.toldOfShelf(x, 3);
        doc.due("comes", x.comes(3, 0), 1);
        doc.same("the glass that came", Houses.toldOfShelf(x, 3), glass);
        doc.due("it comes again", x.comes(3, 0), 2);
        x.toss(3);
        doc.same("the glass that was tossed", Houses.toldOfShelf(x, 3), glass);
    }

    private void shelvesStay() {
        doc.says("when THE IMAGE is RESTORED, SHELVES stay as they are.");
        WhoseGlass x = new WhoseGlass();
        x.keep(0, 1, 5, 3);
        Houses.numbers(x, 3, 2, 1, 2);
        x.image();
        x.keep(0, 0, 0, 0);
        x.keep(1, 1, 3, 3);
        Houses.numbers(x, 2, 1, 7, 8);
        x.put(3, 0, 9);
        x.minutes(1);
        doc.due("restore()", x.restore(), 0);
        String[] want = {"-11 -11", "4 103", "-12 -12 7 8", "-12 -12 9 2"};
        for (int d = 0; d < want.length; d++) {
            doc.same("shelf " + d, Houses.toldOfShelf(x, d), want[d]);
        }
    }

    private void firstOfSeveral() {
        doc.says("Answers of several refusals are the first one as they are told at the call:");
        WhoseGlass x = Houses.of("g0190;".repeat(12) + "p11000;");
        x.keep(0, 1, 0, 0);
        x.row(1, 0, 2);
        x.row(2, 1, 2);
        doc.due("comes: -1 ahead of -11", x.comes(5, 6), -1);
        doc.due("comes: -1 ahead of -12", x.comes(1, 6), -1);
        doc.due("comes: -1 ahead of -2", x.comes(0, 6), -1);
        doc.due("comes: -11 ahead of -2", x.comes(5, 0), -11);
        doc.due("comes: -12 ahead of -2", x.comes(1, 0), -12);
        doc.due("comes: -2", x.comes(0, 0), -2);
        doc.due("likely: -1 of the glass ahead of -3", x.likely(0, 12, 0), -1);
        doc.due("likely: -1 of the part ahead of -3", x.likely(0, 0, 2), -1);
        doc.due("likely: -3", x.likely(0, 0, 0), -3);
        WhoseGlass nobody = new WhoseGlass();
        doc.due("seeded: -1 of the times ahead of -3", nobody.seeded(0, 1, 0), -1);
        doc.due("seeded: -1 of what ahead of -3", nobody.seeded(1, 1, 2), -1);
        doc.due("judge: -1 of the glass ahead of -11", x.judge(12, 5), -1);
        doc.due("judge: -1 of the glass ahead of -12", x.judge(12, 0), -1);
        doc.due("row: -1 of the shelf ahead of -14", x.row(8, 0, -1), -1);
        doc.due("row: -1 of the sort ahead of -14", x.row(1, 3, -1), -1);
        doc.due("put: -11 ahead of -13", x.put(5, -1, 0), -11);
        doc.due("put: -12 ahead of -13", x.put(0, -1, 0), -12);
        doc.due("copy: -1 ahead of -11", x.copy(5, 0, 8, 0, 1), -1);
        doc.due("copy: -1 ahead of -12", x.copy(8, 0, 0, 0, 1), -1);
        doc.due("copy: -1 ahead of -13", x.copy(8, 0, 1, 9, 1), -1);
        doc.due("copy: -11 ahead of -12, to nothing", x.copy(0, 0, 5, 0, 1), -11);
        doc.due("copy: -11 ahead of -12, from nothing", x.copy(5, 0, 0, 0, 1), -11);
        doc.due("copy: -11 ahead of -13", x.copy(1, 9, 5, 0, 1), -11);
        doc.due("copy: -12 of glasses ahead of -13", x.copy(0, 9, 1, 0, 1), -12);
        doc.due("copy: -12 of sorts ahead of -13", x.copy(1, 9, 2, 0, 1), -12);
        for (int k = 0; k < 10; k++) {
            nobody.minutes(99);
        }
        doc.due("minutes: -1 ahead of -2", nobody.minutes(100), -1);
        doc.due("minutes: -2", nobody.minutes(99), -2);
    }

    private void refusedInOrder() {
        doc.says("-1 no such thing, a number out of range, or not as told; -2 no room; -3 it can't be as things stand; "
                + "-4 none; -11 to -15.");
        WhoseGlass x = Houses.of("p11000;t0;");
        doc.due("no such thing", x.glass(0, 0), -1);
        doc.due("a number out of range", x.go(0, 6), -1);
        doc.due("not as told", x.count(9), -1);
        doc.due("it can't be as things stand", x.sip(0), -3);
        doc.due("nor that", x.lay(0), -3);
        doc.due("nor that", x.restore(), -3);
        doc.due("none", x.take(0), -4);
        doc.due("none held", x.guest(0, 5), -4);
        doc.due("none there", x.oldest(0), -4);
        x.keep(0, 1, 0, 0);
        for (int i = 0; i < 12; i++) {
            x.comes(0, 0);
        }
        doc.due("no room", x.comes(0, 0), -2);
        doc.due("-11", x.cost(1), -11);
        doc.due("-12", x.put(0, 0, 0), -12);
        x.row(1, 0, 0);
        doc.due("-13", x.put(1, 0, 0), -13);
        doc.due("-14", x.row(1, 0, -1), -14);
        doc.due("-15", x.toss(0), -15);
    }

    private void changesNothing() {
        doc.says("A refused call changes nothing.");
        WhoseGlass x = Houses.of("g0110;g0201;p11000;p11000;h000;c0;t3;m;p11000;");
        Houses.numbers(x, 1, 0, 1, 2);
        Houses.numbers(x, 2, 1, 3, 4);
        x.keep(3, 1, 4, 0);
        String house = Houses.told(x);
        StringBuilder shelves = new StringBuilder();
        for (int d = 0; d < 5; d++) {
            shelves.append(Houses.toldOfShelf(x, d)).append("; ");
        }
        int[] ones = {x.house(8), x.glass(9, 0), x.guest(9, 0), x.comes(3, 6), x.comes(8, 0), x.go(0, 6), x.go(9, 0),
            x.sip(9), x.lay(9), x.take(9), x.fill(6), x.clear(6, 0), x.clear(0, 100), x.minutes(0), x.minutes(100),
            x.like(0, 9), x.mine(9), x.likely(9, 0, 0), x.idle(6), x.oldest(6), x.mistakes(61), x.fresh(61),
            x.colds(61), x.had(0, 61), x.where(0, 61), x.brought(8, 0), x.particular(61), x.mark(61), x.close(61),
            x.driver(61), x.seeded(31, 1, 0), x.judge(0, 8), x.count(9), x.keep(1, 2, 0, 0), x.keep(1, 1, 8, 0),
            x.keep(1, 1, 0, 10), x.row(1, 3, 1), x.row(1, 0, 101), x.put(8, 0, 0), x.copy(1, 0, 8, 0, 1), x.cost(8),
            x.toss(8)};
        for (int i = 0; i < ones.length; i++) {
            doc.due("refused call " + i, ones[i], -1);
        }
        int[] others = {x.house(2), x.house(4), x.comes(4, 0), x.comes(1, 0), x.sip(0), x.lay(2),
            x.take(1), x.restore(), x.judge(0, 4), x.judge(0, 3), x.row(1, 0, -1), x.put(1, 2, 9), x.put(3, 0, 9),
            x.put(4, 0, 9), x.copy(1, 0, 2, 0, 1), x.copy(1, 0, 4, 0, 1), x.copy(1, 1, 1, 0, 2), x.cost(1), x.toss(3)};
        int[] want = {-12, -11, -11, -12, -3, -3, -3, -3, -11, -12, -14, -13, -12, -11, -12, -11, -13, -12, -15};
        for (int i = 0; i < others.length; i++) {
            doc.due("refused call " + (ones.length + i), others[i], want[i]);
        }
        doc.same("all", Houses.told(x), house);
        StringBuilder then = new StringBuilder();
        for (int d = 0; d < 5; d++) {
            then.append(Houses.toldOfShelf(x, d)).append("; ");
        }
        doc.same("the shelves", then.toString(), shelves.toString());
        refusedRowsAndGlasses(x);
    }

    /** A shelf's sort, kind and figure are told by what it does later on alone. */
    private void refusedRowsAndGlasses(WhoseGlass x) {
        doc.due("ints of no such size", x.row(1, 2, -1), -14);
        doc.due("ints of no such size, too", x.row(1, 2, 101), -1);
        x.put(1, 0, 99999);
        doc.due("bytes still", x.element(1, 0), -97);
        doc.due("bytes of no such size", x.row(2, 0, -1), -14);
        x.put(2, 0, 300);
        doc.due("shorts still", x.element(2, 0), 300);
        x.keep(5, 1, 5, 3);
        doc.due("no such kind", x.keep(5, 1, 8, 4), -1);
        doc.due("no such figure", x.keep(5, 1, 1, 10), -1);
        doc.due("no such what", x.keep(5, 2, 1, 4), -1);
        doc.due("an owl of figure 3 still", x.toss(5), 214);
    }
}
