/** Promises 31 to 33: image, restore, count. */
public final class ImageTest {

    private static final Check check = new Check("ImageTest");

    public static void main(String[] args) {
        restoresAll();
        keepsShelves();
        takesAnother();
        restoresNothingAtFirst();
        counts();
        check.end();
    }

    private static void restoresAll() {
        WhoseGlass x = Houses.of("g3490;g0291;p23412;h000;c0;t7;m;");
        check.due("image()", x.image(), 1);
        String before = told(x);
        x.minutes(50);
        x.lay(0);
        x.clear(1, 0);
        Houses.read(x, "t50;p11000;g7990;c0;");
        check.holds("there is another house", !told(x).equals(before));
        check.due("restore()", x.restore(), 1);
        check.due("glasses", x.count(0), 2);
        check.holds("all is as it was", told(x).equals(before));
        x.minutes(3);
        x.take(0);
        check.due("restore() once more", x.restore(), 1);
        check.holds("all is as it was again", told(x).equals(before));
        int then = x.mistakes(20);
        x.minutes(9);
        x.restore();
        check.due("the same comes", x.mistakes(20), then);
    }

    private static String told(WhoseGlass x) {
        StringBuilder told = new StringBuilder();
        for (int what = 0; what < 9; what++) {
            told.append(x.count(what)).append(' ');
            for (int i = 0; i < 3; i++) {
                told.append(x.glass(i, what)).append(' ').append(x.guest(i, what)).append(' ');
            }
        }
        return told.toString();
    }

    private static void keepsShelves() {
        WhoseGlass x = new WhoseGlass();
        x.keep(0, 1, 5, 3);
        x.image();
        x.keep(0, 0, 0, 0);
        x.keep(1, 1, 3, 3);
        x.row(2, 1, 3);
        x.restore();
        check.due("shelf 0 stays empty", x.cost(0), -11);
        check.due("shelf 1 keeps its glass", x.cost(1), 4);
        check.due("shelf 2 keeps its row", x.put(2, 2, 1), 0);
    }

    private static void takesAnother() {
        WhoseGlass x = new WhoseGlass();
        check.due("an image of none", x.image(), 0);
        Houses.read(x, "g0190;m;m;");
        check.due("another", x.image(), 2);
        Houses.read(x, "g0190;m;");
        check.due("the newer one", x.restore(), 2);
        check.due("glasses", x.count(0), 1);
        // The image itself is not among what is restored.
        check.due("it stays", x.restore(), 2);
    }

    private static void restoresNothingAtFirst() {
        WhoseGlass x = Houses.of("g0190;m;");
        check.due("restore()", x.restore(), -3);
        check.due("nothing has changed", 10 * x.count(0) + x.count(3), 11);
        x.image();
        x.restore();
        check.due("glasses that come get the next number", Houses.read(x, "g0190;"), 1);
        check.due("glasses", x.count(0), 2);
        x.restore();
        x.keep(0, 1, 2, 3);
        check.due("behind a restore, too", x.comes(0, 4), 1);
        check.due("as it came", x.glass(1, 0) * 100 + x.glass(1, 1) * 10 + x.glass(1, 2), 239);
        check.due("sipped by none", x.glass(1, 4) + x.glass(1, 5), 0);

        WhoseGlass y = new WhoseGlass();
        y.image();
        Houses.read(y, "g0190;p11000;c0;h000;m;");
        y.restore();
        Houses.read(y, "g0190;p11000;");
        check.due("a new glass has neither sips nor germs", y.glass(0, 4) + y.glass(0, 5), 0);
        check.due("a new guest has had nothing", y.guest(0, 7), 0);
        check.due("nor has it a cold", y.guest(0, 8), 0);
        check.due("nor a glass", y.guest(0, 5) + y.guest(0, 6), -8);
    }

    private static void counts() {
        WhoseGlass x = Houses.of("g0190;g0170;g0151;p19000;p19002;p19003;h000;c0;c2;t31;m;");
        int[] want = {5, 3, 29, 1, 38, 5, 0};
        for (int what = 0; what < want.length; what++) {
            check.due("count(" + what + ")", x.count(what), want[what]);
        }
        x.clear(0, 0);
        check.due("in the sink", x.count(6), 1);
        check.due("fills", x.count(4), 31);
        check.due("glasses in the sink count as glasses", x.count(0), 5);
        check.due("count(-1)", x.count(-1), -1);
        check.due("count(7)", x.count(7), -1);
    }
}
