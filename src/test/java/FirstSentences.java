/** "What it is": the document's first sentence, part by part, and how long an object is used. */
final class FirstSentences {

    private static final String PART = "What it is";

    // Guest 0 lays at 2, 4, 6, guest 1 at 3, 6; at 4 guest 1 takes guest 0's, which was laid last.
    private static final String PAIR = "g0190;g0190;p12000;p13000;h000;h101;";

    private final Sentences doc;

    FirstSentences(Sentences doc) {
        this.doc = doc;
    }

    void tell() {
        placesAndGuests();
        kinds();
        whatOneWouldTake();
        whatEachHasHad();
        minutesToCome();
        colds();
        toDoAboutIt();
        toServe();
        seedsTextsAndTheImage();
        manyCalls();
    }

    private void placesAndGuests() {
        doc.says(PART, "Whose glass is this: a house of places with guests who sip, lay their glass down, go about, turn back "
                + "and take what is most like their own, or one from the tray;");
        WhoseGlass x = Houses.of("g0390;g0190;g0290;p99000;h000;");
        doc.due("sip(0)", x.sip(0), 2);
        doc.due("lay(0)", x.lay(0), 0);
        doc.due("go(0, 4)", x.go(0, 4), 0);
        doc.due("from the tray", x.take(0), 3);
        doc.due("lay(0) there", x.lay(0), 3);
        doc.due("go(0, 0)", x.go(0, 0), 4);
        doc.due("most like its own, figure 9: all alike, the least", x.take(0), 0);
        x.lay(0);
        Houses.read(x, "g0290;h002;");
        x.go(0, 5);
        x.lay(0);
        x.go(0, 0);
        doc.due("most like its own, figure 2", x.take(0), 4);
    }

    private void kinds() {
        doc.says(PART, "glasses of kinds, marked, tall, red, with water, an owl, chipped, poured together;");
        WhoseGlass x = new WhoseGlass();
        int[] itself = {3, 20, 6, 7, 7, 20, 14, 7};
        int[] costs = {2, 6, 3, 4, 6, 15, 3, 20};
        for (int kind = 0; kind < itself.length; kind++) {
            x.keep(0, 1, kind, 4);
            doc.due("cost of kind " + kind, x.cost(0), costs[kind]);
            doc.due("one of kind " + kind + " comes", x.comes(0, 0), kind);
            doc.due("kind " + kind + " to itself", x.like(kind, kind), itself[kind]);
        }
    }

    private void whatOneWouldTake() {
        WhoseGlass x = Houses.of("g0190;g2190;g0290;p99000;h000;");
        doc.says(PART, "which one somebody would take,");
        doc.due("mine(0)", x.mine(0), 1);
        doc.says(PART, "how likely,");
        doc.due("3 of 4, above", x.likely(0, 1, 0), 3);
        doc.due("3 of 4, below", x.likely(0, 1, 1), 4);
    }

    private void whatEachHasHad() {
        WhoseGlass x = Houses.of("g3490;g0190;p11000;p99000;h000;h101;");
        x.minutes(3);
        doc.says(PART, "who sipped what,");
        doc.due("the red one, guest 0", x.glass(0, 4), 1);
        doc.due("the other one, guest 1", x.glass(1, 4), 2);
        x.lay(0);
        x.lay(1);
        Houses.read(x, "h100;");
        x.sip(1);
        doc.due("the red one, both", x.glass(0, 4), 3);
        doc.says(PART, "how much each has had,");
        // Guest 0 sipped at 0 and 1, laid it down, and took it at 2 again.
        doc.due("guest 0", x.guest(0, 7), 12);
        doc.due("guest 1", x.guest(1, 7), 8);
    }

    private void minutesToCome() {
        WhoseGlass x = Houses.of(PAIR + "p19005;");
        doc.says(PART, "mistakes and fresh ones in minutes to come,");
        doc.due("mistakes(6)", x.mistakes(6), 2);
        doc.due("fresh(6)", x.fresh(6), 1);
        doc.says(PART, "where a glass is then,");
        doc.due("where(0, 5)", x.where(0, 5), 11);
        doc.due("where(1, 6)", x.where(1, 6), 10);
    }

    private void colds() {
        WhoseGlass x = Houses.of(PAIR + "c0;");
        doc.says(PART, "how a cold goes by shared ones,");
        doc.due("colds(5)", x.colds(5), 1);
        doc.due("colds(6)", x.colds(6), 3);
        doc.says(PART, "who can have brought it,");
        doc.due("brought(3, 6)", x.brought(3, 6), 1);
        doc.due("brought(2, 6)", x.brought(2, 6), 2);
    }

    private void toDoAboutIt() {
        WhoseGlass x = Houses.of(PAIR + "c0;");
        doc.says(PART, "how particular all must be,");
        doc.due("particular(6)", x.particular(6), 4);
        doc.says(PART, "which glass to mark,");
        doc.due("mark(5)", x.mark(5), 1);
        doc.says(PART, "which place to leave out,");
        doc.due("close(4)", Houses.of("g0190;g0192;p92300;h000;").close(4), 1);
    }

    private void toServe() {
        WhoseGlass x = Houses.of("g0390;g0110;m;m;p99000;p11000;h000;h101;");
        doc.says(PART, "who is driven,");
        doc.due("driver(0)", x.driver(0), 0);
        x.sip(0);
        doc.due("driver(0) behind a sip", x.driver(0), 1);
        x.sip(1);
        x.sip(1);
        doc.due("one sip was left to it", x.driver(0), 0);
        doc.says(PART, "whom one fills up,");
        doc.due("an empty one", x.full(), -4);
        x.lay(1);
        doc.due("fill(0)", x.fill(0), 1);
        doc.due("none is empty", x.full(), 0);
        doc.says(PART, "when a place must be cleared,");
        doc.due("oldest(0)", x.oldest(0), 1);
        doc.due("laid at minute 2", x.glass(1, 6), 2);
        doc.due("clear(0, 1)", x.clear(0, 1), 0);
        doc.due("clear(0, 0)", x.clear(0, 0), 1);
        doc.says(PART, "toasts,");
        x.keep(0, 1, 3, 7);
        doc.due("toss(0)", x.toss(0), 107);
    }

    private void seedsTextsAndTheImage() {
        doc.says(PART, "houses by seeds,");
        WhoseGlass x = Houses.of("g0192;g0195;p19000;h001;");
        x.go(0, 5);
        x.lay(0);
        doc.due("seeded(1, 1, 0)", x.seeded(1, 1, 0), 1);
        doc.due("seeded(1, 1, 1)", x.seeded(1, 1, 1), 0);
        doc.says(PART, "told places looked at,");
        Houses.numbers(x, 1, 0, 5, 10);
        doc.due("judge(1, 1)", x.judge(1, 1), -4);
        doc.due("judge(0, 1)", x.judge(0, 1), 0);
        doc.says(PART, "houses as texts,");
        doc.due("a text", Houses.read(x, "g7123;p11000;m;"), 3);
        doc.due("its kind", x.glass(2, 0), 7);
        doc.says(PART, "an image.");
        doc.due("image()", x.image(), 1);
        x.minutes(5);
        doc.due("restore()", x.restore(), 1);
    }

    private void manyCalls() {
        doc.says(PART, "An object is used for at most 512 calls after it has been made; what later calls answer is free.");
        WhoseGlass x = Houses.of("p11000;");
        int place = 0;
        for (int calls = 9; calls < 512; calls++) {
            doc.due("call " + (calls + 1), x.go(0, calls % 6), place);
            place = calls % 6;
        }
        // The dearest ones, as often: what they think through leaves nothing behind.
        WhoseGlass dear = Houses.of(PAIR + "c0;");
        for (int calls = 42; calls + 4 <= 512; calls += 4) {
            doc.due("mark behind " + calls + " calls", dear.mark(60), dear.mark(60));
            doc.due("particular behind " + calls + " calls", dear.particular(6), 4);
            doc.due("brought behind " + calls + " calls", dear.brought(3, 6), 1);
        }
    }
}
