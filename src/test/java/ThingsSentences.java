/** Terms 1, what there is: places, glasses, guests, tray and minute, LIKE and STRENGTH. */
final class ThingsSentences {

    private final Sentences doc;

    ThingsSentences(Sentences doc) {
        this.doc = doc;
    }

    void tell() {
        places();
        glassesAsTheyCome();
        kinds();
        figuresAndFills();
        whereGlassesAre();
        guestsAsTheyCome();
        numbersOfGuests();
        ownGlasses();
        hadAndColdAtFirst();
        tray();
        minuteAtFirst();
        likeByTheKindOfTheFirst();
        likeOfGlasses();
        likeOfMarkedOnes();
        likeOfTallOnes();
        likeOfRedOnes();
        likeOfWater();
        likeOfOwls();
        likeOfChippedOnes();
        likeOfPouredOnes();
        strengths();
        strengthOfChippedOnes();
        strengthOfPouredOnes();
    }

    private void places() {
        doc.says("PLACES 0 .. 5 round.");
        WhoseGlass x = Houses.of("p99100;");
        for (int place = 0; place < 6; place++) {
            doc.due("idle(" + place + ")", x.idle(place), 0);
        }
        doc.due("idle(-1)", x.idle(-1), -1);
        doc.due("idle(6)", x.idle(6), -1);
        for (int t = 0; t < 14; t++) {
            x.minutes(1);
            doc.due("its place behind minute " + t, x.guest(0, 4), t % 6);
        }
    }

    private void glassesAsTheyCome() {
        doc.says("GLASSES 0 .. 11 as they come (12 at most),");
        WhoseGlass x = new WhoseGlass();
        Houses.read(x, "p11000;g0090;g0190;g0290;g0390;g0490;g0590;g0690;g0790;g0890;");
        x.keep(0, 1, 0, 9);
        doc.due("glass 9 comes from a shelf", x.comes(0, 0), 9);
        doc.due("glass 10 comes from the tray", x.take(0), 10);
        doc.due("glass 11 comes by a text", Houses.read(x, "g0690;"), 1);
        int[] figures = {0, 1, 2, 3, 4, 5, 6, 7, 8, 9, 9, 6, -1};
        for (int i = 0; i < figures.length; i++) {
            doc.due("figure of glass " + i, x.glass(i, 1), figures[i]);
        }
        doc.due("glass(-1, 1)", x.glass(-1, 1), -1);
        doc.due("a 13th by a text", Houses.read(x, "g0090;"), -2000);
        doc.due("a 13th from a shelf", x.comes(0, 0), -2);
        doc.due("its own goes to the sink", x.lay(0) + x.clear(0, 0), 22);
        doc.due("a 13th from the tray", x.take(0), -4);
        doc.due("glasses", x.count(0), 12);
    }

    private void kinds() {
        doc.says("of KINDS: 0 GLASS; 1 MARKED under GLASS; 2 TALL under GLASS; 3 RED under GLASS; 4 WATER under TALL; "
                + "5 OWL under MARKED; 6 CHIPPED under RED; 7 POURED under RED:");
        WhoseGlass x = new WhoseGlass();
        for (int kind = 0; kind < 8; kind++) {
            doc.due("keep kind " + kind, x.keep(kind, 1, kind, 5), 0);
            x.comes(kind, 0);
            doc.due("glass(" + kind + ", 0)", x.glass(kind, 0), kind);
        }
        doc.due("keep kind -1", x.keep(0, 1, -1, 5), -1);
        doc.due("keep kind 8", x.keep(0, 1, 8, 5), -1);
        int[][] under = {{4, 2}, {6, 3}, {7, 3}};
        for (int[] pair : under) {
            int most = pair[1] == 3 ? 7 : 6;
            doc.due("kind " + pair[1] + " likes kind " + pair[0] + " as its own", x.like(pair[1], pair[0]), most);
        }
        doc.due("water under tall: 3 more", x.cost(4) - x.cost(2), 3);
        doc.due("an owl under marked: 9 more", x.cost(5) - x.cost(1), 9);
        doc.due("chipped under red: 1 less", x.cost(6) - x.cost(3), -1);
        doc.due("poured under red: times 6", x.cost(7), 6 * x.cost(3));
    }

    private void figuresAndFills() {
        doc.says("a FIGURE (0 .. 9), a FILL (0 .. 9),");
        WhoseGlass x = Houses.of("g0000;g0990;p19000;p19000;h000;h101;");
        doc.due("least figure", x.glass(0, 1), 0);
        doc.due("least fill", x.glass(0, 2), 0);
        doc.due("greatest figure", x.glass(1, 1), 9);
        doc.due("greatest fill", x.glass(1, 2), 9);
        doc.due("keep figure -1", x.keep(0, 1, 0, -1), -1);
        doc.due("keep figure 0", x.keep(0, 1, 0, 0), 0);
        doc.due("keep figure 9", x.keep(0, 1, 0, 9), 0);
        doc.due("keep figure 10", x.keep(0, 1, 0, 10), -1);
        x.minutes(9);
        doc.due("no fill below 0", x.glass(0, 2), 0);
        doc.due("nine sips of fill 9", x.glass(1, 2), 0);
        x.lay(0);
        x.fill(0);
        doc.due("no fill above 9", x.glass(0, 2), 9);
    }

    private void whereGlassesAre() {
        doc.says("each in a guest's hand, at a PLACE (LAID at a MINUTE), or in the SINK.");
        WhoseGlass x = Houses.of("m;m;g0190;g0195;g0190;g0191;p99000;p99000;p99000;p99000;p99000;p99000;h000;h502;");
        int[] places = {10, 5, 15, 1};
        int[] laid = {-4, 2, -4, 2};
        for (int i = 0; i < places.length; i++) {
            doc.due("where glass " + i + " is", x.glass(i, 3), places[i]);
            doc.due("when glass " + i + " was laid", x.glass(i, 6), laid[i]);
        }
        x.clear(1, 0);
        doc.due("in the sink", x.glass(3, 3), 20);
        doc.due("no more laid", x.glass(3, 6), -4);
    }

    private void guestsAsTheyCome() {
        doc.says("GUESTS 0 .. 5 as they come (6 at most):");
        WhoseGlass x = Houses.of("p11000;p21000;p31000;p41000;p51000;p61000;");
        for (int i = 0; i < 6; i++) {
            doc.due("pace of guest " + i, x.guest(i, 0), i + 1);
        }
        doc.due("guest(-1, 0)", x.guest(-1, 0), -1);
        doc.due("guest(6, 0)", x.guest(6, 0), -1);
        doc.due("a seventh", Houses.read(x, "p11000;"), -2000);
        doc.due("guests", x.count(1), 6);
    }

    private void numbersOfGuests() {
        doc.says("PACE (1 .. 9), LAYS (1 .. 9), STEP (0 .. 9), CARE (0 .. 9), a PLACE, what it HOLDS,");
        WhoseGlass x = Houses.of("g0190;p11000;p99995;h100;");
        int[] least = {1, 1, 0, 0, 0, -4};
        int[] most = {9, 9, 9, 9, 5, 0};
        for (int what = 0; what < least.length; what++) {
            doc.due("the least, guest(0, " + what + ")", x.guest(0, what), least[what]);
            doc.due("the most, guest(1, " + what + ")", x.guest(1, what), most[what]);
        }
        doc.due("pace 0", Houses.read(x, "p01000;"), -2000);
        doc.due("lays 0", Houses.read(x, "p10000;"), -2000);
        doc.due("place 6", Houses.read(x, "p11006;"), -2000);
    }

    private void ownGlasses() {
        doc.says("its OWN (the GLASS it took last; none at first),");
        WhoseGlass x = Houses.of("g0290;g0390;p11000;");
        doc.due("none at first", x.guest(0, 6), -4);
        Houses.read(x, "h000;");
        doc.due("what it holds", x.guest(0, 6), 0);
        x.go(0, 5);
        x.lay(0);
        doc.due("laid, it stays its own", x.guest(0, 6), 0);
        x.go(0, 0);
        doc.due("take(0)", x.take(0), 1);
        doc.due("what it took last", x.guest(0, 6), 1);
        x.lay(0);
        x.clear(0, 0);
        doc.due("in the sink, it stays its own", x.guest(0, 6), 1);
    }

    private void hadAndColdAtFirst() {
        doc.says("what it has HAD (0 at first), a COLD or not (not at first).");
        WhoseGlass x = Houses.of("g0190;p11000;");
        doc.due("had at first", x.guest(0, 7), 0);
        doc.due("no cold at first", x.guest(0, 8), 0);
        Houses.read(x, "h000;c0;");
        x.sip(0);
        doc.due("had behind a sip", x.guest(0, 7), 2);
        doc.due("a cold", x.guest(0, 8), 1);
    }

    private void tray() {
        doc.says("TRAY: how many are left there (0 .. 99; 20 at first).");
        WhoseGlass x = new WhoseGlass();
        doc.due("at first", x.count(2), 20);
        Houses.read(x, "p11000;p11000;t99;");
        doc.due("the most", x.count(2), 99);
        x.take(0);
        doc.due("one less", x.count(2), 98);
        doc.due("more than 99", Houses.read(x, "t100;"), -1003);
        Houses.read(x, "t0;");
        doc.due("the least", x.count(2), 0);
        doc.due("nothing is left", x.take(1), -4);
        doc.due("none below 0", x.count(2), 0);
    }

    private void minuteAtFirst() {
        doc.says("MINUTE (0 at first).");
        WhoseGlass x = new WhoseGlass();
        doc.due("at first", x.count(3), 0);
        doc.due("the first minute", x.minutes(1), 1);
    }

    /** LIKE of glass 0, of a kind and figure 1, to ones of all kinds with a figure, by their kinds. */
    private void likes(int kind, int figure, int... want) {
        StringBuilder house = new StringBuilder("g" + kind + "190;");
        for (int other = 0; other < 8; other++) {
            house.append('g').append(other).append(figure).append("90;");
        }
        WhoseGlass x = Houses.of(house.toString());
        for (int other = 0; other < 8; other++) {
            doc.due("kind " + kind + ", figure 1, to kind " + other + ", figure " + figure,
                    x.like(0, 1 + other), want[other]);
        }
    }

    private void likesItself(int kind, int want) {
        WhoseGlass x = Houses.of("g" + kind + "190;g" + kind + "190;");
        doc.due("kind " + kind + " to itself", x.like(0, 0), want);
        doc.due("the other one to itself", x.like(1, 1), want);
    }

    private void likeByTheKindOfTheFirst() {
        doc.says("LIKE of one to another one or to itself (0 and more; by the kind of the first):");
        WhoseGlass x = Houses.of("g0190;g1190;g2190;g3190;g4190;g5190;g6190;g7190;");
        for (int other = 1; other < 8; other++) {
            doc.due("a glass to kind " + other, x.like(0, other), 3);
        }
        int[] back = {3, 0, 3, 3, 3, 0, 3, 3};
        for (int first = 0; first < 8; first++) {
            doc.due("kind " + first + " to a glass", x.like(first, 0), back[first]);
        }
        doc.due("tall to water", x.like(2, 4), 6);
        doc.due("water to tall", x.like(4, 2), 6);
    }

    private void likeOfGlasses() {
        doc.says("GLASS 1, and 2 more if FIGURES are alike;");
        likes(0, 1, 3, 3, 3, 3, 3, 3, 3, 3);
        likes(0, 2, 1, 1, 1, 1, 1, 1, 1, 1);
        likes(0, 0, 1, 1, 1, 1, 1, 1, 1, 1);
        likesItself(0, 3);
    }

    private void likeOfMarkedOnes() {
        doc.says("MARKED 20 to itself, else 0;");
        likes(1, 1, 0, 0, 0, 0, 0, 0, 0, 0);
        likes(1, 2, 0, 0, 0, 0, 0, 0, 0, 0);
        likesItself(1, 20);
    }

    private void likeOfTallOnes() {
        doc.says("TALL a GLASS's, and 3 more to TALL and WATER ones;");
        likes(2, 1, 3, 3, 6, 3, 6, 3, 3, 3);
        likes(2, 2, 1, 1, 4, 1, 4, 1, 1, 1);
        likesItself(2, 6);
    }

    private void likeOfRedOnes() {
        doc.says("RED a GLASS's, and 4 more to RED ones and all under;");
        likes(3, 1, 3, 3, 3, 7, 3, 3, 7, 7);
        likes(3, 2, 1, 1, 1, 5, 1, 1, 5, 5);
        likesItself(3, 7);
    }

    private void likeOfWater() {
        doc.says("WATER a TALL's, and 1 more to WATER ones;");
        likes(4, 1, 3, 3, 6, 3, 7, 3, 3, 3);
        likes(4, 2, 1, 1, 4, 1, 5, 1, 1, 1);
        likesItself(4, 7);
    }

    private void likeOfOwls() {
        doc.says("OWL as a MARKED, but 5 to other OWLS;");
        likes(5, 1, 0, 0, 0, 0, 0, 5, 0, 0);
        likes(5, 2, 0, 0, 0, 0, 0, 5, 0, 0);
        likesItself(5, 20);
    }

    private void likeOfChippedOnes() {
        doc.says("CHIPPED a RED's, twice to itself;");
        likes(6, 1, 3, 3, 3, 7, 3, 3, 7, 7);
        likes(6, 2, 1, 1, 1, 5, 1, 1, 5, 5);
        likesItself(6, 14);
    }

    private void likeOfPouredOnes() {
        doc.says("POURED a RED's, 0 if the other one's FILL is 0 (its own, to itself).");
        likes(7, 1, 3, 3, 3, 7, 3, 3, 7, 7);
        likes(7, 2, 1, 1, 1, 5, 1, 1, 5, 5);
        likesItself(7, 7);
        WhoseGlass x = Houses.of("g7110;g3100;g3110;p11000;h000;");
        doc.due("to an empty one", x.like(0, 1), 0);
        doc.due("to one of fill 1", x.like(0, 2), 7);
        doc.due("to itself with fill 1", x.like(0, 0), 7);
        x.sip(0);
        doc.due("to itself, empty", x.like(0, 0), 0);
        doc.due("an empty one to one of fill 1", x.like(0, 2), 7);
        x.lay(0);
        x.fill(0);
        doc.due("to itself, filled", x.like(0, 0), 7);
        doc.due("to the other, filled", x.like(0, 1), 7);
        Houses.read(x, "h001;");
        x.go(0, 4);
        x.lay(0);
        x.clear(4, 0);
        doc.due("to one in the sink", x.like(0, 1), 0);
        doc.due("a red one to one in the sink", x.like(2, 1), 7);
    }

    /** Nine sips of a full glass, each with its strength. */
    private void sips(int kind, int figure, int... want) {
        WhoseGlass x = Houses.of("g" + kind + figure + "90;p11000;h000;");
        int had = 0;
        for (int k = 0; k < 9; k++) {
            doc.due("sip " + k + " of kind " + kind + ", figure " + figure, x.sip(0), want[k]);
            had += want[k];
        }
        doc.due("had of kind " + kind, x.guest(0, 7), had);
        doc.due("one sip more", x.sip(0), -3);
    }

    private void strengths() {
        doc.says("STRENGTH of a sip: GLASS 2;");
        sips(0, 0, 2, 2, 2, 2, 2, 2, 2, 2, 2);
        sips(0, 9, 2, 2, 2, 2, 2, 2, 2, 2, 2);
        doc.says("MARKED as a GLASS;");
        sips(1, 9, 2, 2, 2, 2, 2, 2, 2, 2, 2);
        doc.says("TALL 1 less than a GLASS;");
        sips(2, 9, 1, 1, 1, 1, 1, 1, 1, 1, 1);
        doc.says("RED a GLASS's and FIGURE;");
        sips(3, 0, 2, 2, 2, 2, 2, 2, 2, 2, 2);
        sips(3, 9, 11, 11, 11, 11, 11, 11, 11, 11, 11);
        doc.says("WATER 0;");
        sips(4, 9, 0, 0, 0, 0, 0, 0, 0, 0, 0);
        doc.says("OWL as a MARKED;");
        sips(5, 9, 2, 2, 2, 2, 2, 2, 2, 2, 2);
    }

    private void strengthOfChippedOnes() {
        doc.says("CHIPPED a RED's, but 0 if FILL (ahead of the sip) is odd;");
        sips(6, 0, 0, 2, 0, 2, 0, 2, 0, 2, 0);
        sips(6, 9, 0, 11, 0, 11, 0, 11, 0, 11, 0);
    }

    private void strengthOfPouredOnes() {
        doc.says("POURED a RED's and 1.");
        sips(7, 0, 3, 3, 3, 3, 3, 3, 3, 3, 3);
        sips(7, 9, 12, 12, 12, 12, 12, 12, 12, 12, 12);
    }
}
