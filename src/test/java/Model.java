import java.util.ArrayList;
import java.util.List;
import java.util.regex.Matcher;
import java.util.regex.Pattern;

/**
 * The document written down a second time, in another way and without a thought for speed:
 * glasses are objects of classes under classes, what is in mind is a copy of the whole house,
 * texts are matched by a pattern. ModelRunsTest holds the program against it.
 */
final class Model {

    static class Glass {
        final int number;
        final int figure;
        int fill;
        Integer place;
        Integer holder;
        int laid;
        int sipped;
        boolean germs;

        Glass(int number, int figure, int fill) {
            this.number = number;
            this.figure = figure;
            this.fill = fill;
        }

        static Glass of(int kind, int number, int figure, int fill) {
            return switch (kind) {
                case 0 -> new Glass(number, figure, fill);
                case 1 -> new Marked(number, figure, fill);
                case 2 -> new Tall(number, figure, fill);
                case 3 -> new Red(number, figure, fill);
                case 4 -> new Water(number, figure, fill);
                case 5 -> new Owl(number, figure, fill);
                case 6 -> new Chipped(number, figure, fill);
                default -> new Poured(number, figure, fill);
            };
        }

        Glass as(int kind) {
            Glass copy = of(kind, number, figure, fill);
            copy.place = place;
            copy.holder = holder;
            copy.laid = laid;
            copy.sipped = sipped;
            copy.germs = germs;
            return copy;
        }

        int kind() {
            return 0;
        }

        int like(Glass to) {
            return 1 + (figure == to.figure ? 2 : 0);
        }

        int strength() {
            return 2;
        }

        int cost() {
            return 2;
        }

        int toss() {
            return figure == 0 ? -15 : figure;
        }

        int where() {
            return place != null ? place : holder != null ? 10 + holder : 20;
        }
    }

    static class Marked extends Glass {
        Marked(int number, int figure, int fill) {
            super(number, figure, fill);
        }

        @Override
        int kind() {
            return 1;
        }

        @Override
        int like(Glass to) {
            return to.number == number ? 20 : 0;
        }

        @Override
        int cost() {
            return super.cost() + figure;
        }
    }

    static class Tall extends Glass {
        Tall(int number, int figure, int fill) {
            super(number, figure, fill);
        }

        @Override
        int kind() {
            return 2;
        }

        @Override
        int like(Glass to) {
            return super.like(to) + (to instanceof Tall ? 3 : 0);
        }

        @Override
        int strength() {
            return super.strength() - 1;
        }

        @Override
        int cost() {
            return super.cost() + 1;
        }
    }

    static class Red extends Glass {
        Red(int number, int figure, int fill) {
            super(number, figure, fill);
        }

        @Override
        int kind() {
            return 3;
        }

        @Override
        int like(Glass to) {
            return super.like(to) + (to instanceof Red ? 4 : 0);
        }

        @Override
        int strength() {
            return super.strength() + figure;
        }

        @Override
        int cost() {
            return super.cost() * 2;
        }

        @Override
        int toss() {
            return figure == 0 ? -15 : kind() == 3 ? 100 + figure : figure;
        }
    }

    static final class Water extends Tall {
        Water(int number, int figure, int fill) {
            super(number, figure, fill);
        }

        @Override
        int kind() {
            return 4;
        }

        @Override
        int like(Glass to) {
            return super.like(to) + (to instanceof Water ? 1 : 0);
        }

        @Override
        int strength() {
            return 0;
        }

        @Override
        int cost() {
            return super.cost() + 3;
        }

        @Override
        int toss() {
            return -15;
        }
    }

    static final class Owl extends Marked {
        Owl(int number, int figure, int fill) {
            super(number, figure, fill);
        }

        @Override
        int kind() {
            return 5;
        }

        @Override
        int like(Glass to) {
            return to instanceof Owl && to.number != number ? 5 : super.like(to);
        }

        @Override
        int cost() {
            return super.cost() + 9;
        }

        @Override
        int toss() {
            return figure == 0 ? -15 : 200 + cost();
        }
    }

    static final class Chipped extends Red {
        Chipped(int number, int figure, int fill) {
            super(number, figure, fill);
        }

        @Override
        int kind() {
            return 6;
        }

        @Override
        int like(Glass to) {
            return super.like(to) * (to.number == number ? 2 : 1);
        }

        @Override
        int strength() {
            return fill % 2 == 1 ? 0 : super.strength();
        }

        @Override
        int cost() {
            return super.cost() - 1;
        }
    }

    static final class Poured extends Red {
        Poured(int number, int figure, int fill) {
            super(number, figure, fill);
        }

        @Override
        int kind() {
            return 7;
        }

        @Override
        int like(Glass to) {
            return to.fill == 0 ? 0 : super.like(to);
        }

        @Override
        int strength() {
            return super.strength() + 1;
        }

        @Override
        int cost() {
            return super.cost() * (figure + 1);
        }
    }

    static final class Guest {
        final int number;
        final int pace;
        final int lays;
        final int step;
        int care;
        int place;
        int holds = -4;
        int own = -4;
        int had;
        boolean cold;

        Guest(int number, int pace, int lays, int step, int care, int place) {
            this.number = number;
            this.pace = pace;
            this.lays = lays;
            this.step = step;
            this.care = care;
            this.place = place;
        }

        Guest twin() {
            Guest copy = new Guest(number, pace, lays, step, care, place);
            copy.holds = holds;
            copy.own = own;
            copy.had = had;
            copy.cold = cold;
            return copy;
        }
    }

    static final class House {
        final List<Glass> glasses = new ArrayList<>();
        final List<Guest> guests = new ArrayList<>();
        int tray = 20;
        int minute;
        int mistakes;
        int fresh;
        int shut = -1;

        House twin() {
            House copy = new House();
            glasses.forEach(g -> copy.glasses.add(g.as(g.kind())));
            guests.forEach(g -> copy.guests.add(g.twin()));
            copy.tray = tray;
            copy.minute = minute;
            return copy;
        }

        House behind(int n) {
            for (int k = 0; k < n; k++) {
                minute();
            }
            return this;
        }

        void minute() {
            for (Guest g : guests) {
                if (g.step > 0 && minute > 0 && minute % g.step == 0) {
                    do {
                        g.place = g.place == 5 ? 0 : g.place + 1;
                    } while (g.place == shut);
                }
                if (g.holds < 0) {
                    take(g);
                } else {
                    if (minute % g.pace == 0 && glasses.get(g.holds).fill > 0) {
                        sip(g);
                    }
                    if (minute > 0 && minute % g.lays == 0) {
                        lay(g);
                    }
                }
            }
            minute++;
        }

        int sip(Guest g) {
            Glass glass = glasses.get(g.holds);
            int strength = glass.strength();
            glass.fill -= 1;
            g.had += strength;
            glass.sipped |= 1 << g.number;
            if (glass.germs) {
                g.cold = true;
            }
            if (g.cold) {
                glass.germs = true;
            }
            return strength;
        }

        int lay(Guest g) {
            Glass glass = glasses.get(g.holds);
            glass.holder = null;
            glass.place = g.place;
            glass.laid = minute;
            g.holds = -4;
            return glass.number;
        }

        List<Glass> laidAt(int place) {
            return glasses.stream().filter(g -> g.place != null && g.place == place).toList();
        }

        int choice(Guest g) {
            if (g.own < 0 || glasses.get(g.own).where() == 20) {
                return -4;
            }
            Glass own = glasses.get(g.own);
            return laidAt(g.place).stream()
                    .filter(x -> own.like(x) > 0 && own.like(x) >= g.care)
                    .min((x, y) -> own.like(x) != own.like(y) ? own.like(y) - own.like(x)
                            : x.laid != y.laid ? y.laid - x.laid : x.number - y.number)
                    .map(x -> x.number).orElse(-4);
        }

        int take(Guest g) {
            int chosen = choice(g);
            if (chosen < 0) {
                if (tray == 0 || glasses.size() == 12) {
                    return -4;
                }
                tray--;
                chosen = glasses.size();
                glasses.add(Glass.of(0, chosen, tray % 10, 9));
                fresh++;
            } else if (chosen != g.own) {
                mistakes++;
            }
            g.holds = chosen;
            g.own = chosen;
            glasses.get(chosen).place = null;
            glasses.get(chosen).holder = g.number;
            return chosen;
        }

        int colds() {
            return guests.stream().filter(g -> g.cold).mapToInt(g -> 1 << g.number).sum();
        }

        boolean obeys(String s) {
            int[] n = s.substring(1).chars().map(c -> c - '0').toArray();
            switch (s.charAt(0)) {
                case 'g':
                    if (n[0] > 7 || n[3] > 5 || glasses.size() == 12) {
                        return false;
                    }
                    Glass glass = Glass.of(n[0], glasses.size(), n[1], n[2]);
                    glass.place = n[3];
                    glass.laid = minute;
                    return glasses.add(glass);
                case 'p':
                    if (n[0] == 0 || n[1] == 0 || n[4] > 5 || guests.size() == 6) {
                        return false;
                    }
                    return guests.add(new Guest(guests.size(), n[0], n[1], n[2], n[3], n[4]));
                case 'h':
                    int number = n[1] * 10 + n[2];
                    if (n[0] >= guests.size() || number >= glasses.size() || guests.get(n[0]).holds >= 0
                            || glasses.get(number).place == null) {
                        return false;
                    }
                    guests.get(n[0]).holds = number;
                    guests.get(n[0]).own = number;
                    glasses.get(number).place = null;
                    glasses.get(number).holder = n[0];
                    return true;
                case 'c':
                    if (n[0] >= guests.size()) {
                        return false;
                    }
                    guests.get(n[0]).cold ^= true;
                    return true;
                case 't':
                    tray = Integer.parseInt(s.substring(1));
                    return true;
                default:
                    if (minute == 999) {
                        return false;
                    }
                    minute();
                    return true;
            }
        }
    }

    private static final Pattern TEXT =
            Pattern.compile("(?:g\\d{4};|p\\d{5};|h\\d{3};|c\\d;|t\\d{1,2};|m;)+");

    House now = new House();
    House picture;
    final Object[] shelves = new Object[8];

    static int faultOfForm(String text) {
        for (int k = 1; k <= text.length(); k++) {
            Matcher m = TEXT.matcher(text.substring(0, k));
            if (!m.matches() && !m.hitEnd()) {
                return k - 1;
            }
        }
        return TEXT.matcher(text).matches() ? -1 : text.length();
    }

    int house(int d) {
        if (d < 0 || d > 7) {
            return -1;
        }
        if (shelves[d] == null) {
            return -11;
        }
        if (!(shelves[d] instanceof byte[] bytes)) {
            return -12;
        }
        StringBuilder text = new StringBuilder();
        for (byte b : bytes) {
            text.append((char) (b & 255));
        }
        int fault = faultOfForm(text.toString());
        if (fault >= 0) {
            return -1000 - fault;
        }
        House made = now.twin();
        int at = 0;
        String[] statements = text.toString().split(";");
        for (String s : statements) {
            if (!made.obeys(s)) {
                return -2000 - at;
            }
            at += s.length() + 1;
        }
        now = made;
        return statements.length;
    }

    private boolean isGlass(int glass) {
        return glass >= 0 && glass < now.glasses.size();
    }

    private boolean isGuest(int guest) {
        return guest >= 0 && guest < now.guests.size();
    }

    private static boolean isIn(int low, int x, int high) {
        return low <= x && x <= high;
    }

    int glass(int glass, int what) {
        if (!isGlass(glass) || !isIn(0, what, 6)) {
            return -1;
        }
        Glass g = now.glasses.get(glass);
        return new int[] {g.kind(), g.figure, g.fill, g.where(), g.sipped, g.germs ? 1 : 0,
            g.place == null ? -4 : g.laid}[what];
    }

    int guest(int guest, int what) {
        if (!isGuest(guest) || !isIn(0, what, 8)) {
            return -1;
        }
        Guest g = now.guests.get(guest);
        return new int[] {g.pace, g.lays, g.step, g.care, g.place, g.holds, g.own, g.had, g.cold ? 1 : 0}[what];
    }

    int comes(int d, int place) {
        if (!isIn(0, d, 7) || !isIn(0, place, 5)) {
            return -1;
        }
        if (shelves[d] == null) {
            return -11;
        }
        if (!(shelves[d] instanceof Glass kept)) {
            return -12;
        }
        if (now.glasses.size() == 12) {
            return -2;
        }
        Glass g = Glass.of(kept.kind(), now.glasses.size(), kept.figure, 9);
        g.place = place;
        g.laid = now.minute;
        now.glasses.add(g);
        return g.number;
    }

    int go(int guest, int place) {
        if (!isGuest(guest) || !isIn(0, place, 5)) {
            return -1;
        }
        int was = now.guests.get(guest).place;
        now.guests.get(guest).place = place;
        return was;
    }

    int sip(int guest) {
        if (!isGuest(guest)) {
            return -1;
        }
        Guest g = now.guests.get(guest);
        return g.holds < 0 || now.glasses.get(g.holds).fill == 0 ? -3 : now.sip(g);
    }

    int lay(int guest) {
        if (!isGuest(guest)) {
            return -1;
        }
        return now.guests.get(guest).holds < 0 ? -3 : now.lay(now.guests.get(guest));
    }

    int take(int guest) {
        if (!isGuest(guest)) {
            return -1;
        }
        return now.guests.get(guest).holds >= 0 ? -3 : now.take(now.guests.get(guest));
    }

    int fill(int place) {
        if (!isIn(0, place, 5)) {
            return -1;
        }
        List<Glass> low = now.laidAt(place).stream().filter(g -> g.fill < 5).toList();
        low.forEach(g -> g.fill = 9);
        return low.size();
    }

    int clear(int place, int m) {
        if (!isIn(0, place, 5) || !isIn(0, m, 99)) {
            return -1;
        }
        List<Glass> old = now.laidAt(place).stream().filter(g -> g.laid + m <= now.minute).toList();
        for (Glass g : old) {
            g.place = null;
            g.fill = 0;
            g.sipped = 0;
            g.germs = false;
        }
        return old.size();
    }

    int minutes(int n) {
        if (!isIn(1, n, 99)) {
            return -1;
        }
        return now.minute + n > 999 ? -2 : now.behind(n).minute;
    }

    int like(int glass, int other) {
        return isGlass(glass) && isGlass(other) ? now.glasses.get(glass).like(now.glasses.get(other)) : -1;
    }

    int mine(int guest) {
        return isGuest(guest) ? now.choice(now.guests.get(guest)) : -1;
    }

    int likely(int guest, int glass, int part) {
        if (!isGuest(guest) || !isGlass(glass) || !isIn(0, part, 1)) {
            return -1;
        }
        Guest g = now.guests.get(guest);
        Glass wanted = now.glasses.get(glass);
        if (g.own < 0 || wanted.place == null || wanted.place != g.place) {
            return -3;
        }
        Glass own = now.glasses.get(g.own);
        int sum = now.laidAt(g.place).stream().mapToInt(own::like).sum();
        int above = own.like(wanted);
        if (sum == 0) {
            return part;
        }
        int a = sum;
        int b = above;
        while (b != 0) {
            int rest = a % b;
            a = b;
            b = rest;
        }
        return (part == 0 ? above : sum) / a;
    }

    int idle(int place) {
        if (!isIn(0, place, 5)) {
            return -1;
        }
        return (int) now.laidAt(place).stream()
                .filter(x -> now.guests.stream().noneMatch(g -> g.own == x.number)).count();
    }

    int oldest(int place) {
        if (!isIn(0, place, 5)) {
            return -1;
        }
        return now.laidAt(place).stream()
                .min((x, y) -> x.laid != y.laid ? x.laid - y.laid : x.number - y.number)
                .map(x -> x.number).orElse(-4);
    }

    int mistakes(int n) {
        return isIn(0, n, 60) ? now.twin().behind(n).mistakes : -1;
    }

    int fresh(int n) {
        return isIn(0, n, 60) ? now.twin().behind(n).fresh : -1;
    }

    int colds(int n) {
        return isIn(0, n, 60) ? now.twin().behind(n).colds() : -1;
    }

    int had(int guest, int n) {
        return isGuest(guest) && isIn(0, n, 60) ? now.twin().behind(n).guests.get(guest).had : -1;
    }

    int where(int glass, int n) {
        return isGlass(glass) && isIn(0, n, 60) ? now.twin().behind(n).glasses.get(glass).where() : -1;
    }

    int brought(int told, int n) {
        if (told < 0 || told >> now.guests.size() != 0 || !isIn(0, n, 60)) {
            return -1;
        }
        int bits = 0;
        for (Guest g : now.guests) {
            House then = now.twin();
            then.glasses.forEach(x -> x.germs = false);
            then.guests.forEach(x -> x.cold = x.number == g.number);
            if (then.behind(n).colds() == told) {
                bits += 1 << g.number;
            }
        }
        return bits;
    }

    int particular(int n) {
        if (!isIn(0, n, 60)) {
            return -1;
        }
        for (int care = 0; care < 10; care++) {
            House then = now.twin();
            for (Guest g : then.guests) {
                g.care = care;
            }
            if (Integer.bitCount(then.behind(n).colds()) <= Integer.bitCount(now.colds())) {
                return care;
            }
        }
        return -4;
    }

    int mark(int n) {
        if (!isIn(0, n, 60)) {
            return -1;
        }
        int[] made = new int[now.glasses.size()];
        for (int i = 0; i < made.length; i++) {
            House then = now.twin();
            then.glasses.set(i, then.glasses.get(i).as(1));
            made[i] = then.behind(n).mistakes;
        }
        return firstLeast(made, mistakes(n));
    }

    int close(int n) {
        if (!isIn(0, n, 60)) {
            return -1;
        }
        int[] taken = new int[6];
        for (int i = 0; i < 6; i++) {
            House then = now.twin();
            then.shut = i;
            taken[i] = then.behind(n).fresh;
        }
        return firstLeast(taken, fresh(n));
    }

    private static int firstLeast(int[] numbers, int below) {
        int least = below;
        for (int x : numbers) {
            least = Math.min(least, x);
        }
        for (int i = 0; i < numbers.length && least < below; i++) {
            if (numbers[i] == least) {
                return i;
            }
        }
        return -4;
    }

    int driver(int n) {
        if (!isIn(0, n, 60)) {
            return -1;
        }
        return now.twin().behind(n).guests.stream()
                .min((x, y) -> x.had != y.had ? x.had - y.had : x.number - y.number)
                .map(x -> x.number).orElse(-4);
    }

    int full() {
        House then = now.twin();
        for (int n = 0; n <= 60; n++) {
            if (then.glasses.stream().noneMatch(g -> g.where() != 20 && g.fill == 0)) {
                return n;
            }
            then.minute();
        }
        return -4;
    }

    int seeded(int n, int z, int what) {
        if (!isIn(1, n, 30) || !isIn(0, what, 1)) {
            return -1;
        }
        if (now.guests.isEmpty()) {
            return -3;
        }
        House then = now.twin();
        int seed = z;
        for (int k = 0; k < n; k++) {
            for (Guest g : then.guests) {
                seed = (int) (seed * 1103515245L + 12345L);
                g.place = (seed << 1 >>> 17) % 6;
            }
            then.minute();
        }
        return what == 0 ? then.mistakes : then.fresh;
    }

    int judge(int glass, int d) {
        if (!isGlass(glass) || !isIn(0, d, 7)) {
            return -1;
        }
        if (shelves[d] == null) {
            return -11;
        }
        if (shelves[d] instanceof Glass) {
            return -12;
        }
        House then = now.twin();
        long least = new long[] {Byte.MIN_VALUE, Short.MIN_VALUE, Integer.MIN_VALUE}[sort(shelves[d])];
        for (int i = 0; i < size(shelves[d]); i++) {
            long told = elementOf(shelves[d], i);
            if (told != least && told != then.glasses.get(glass).where()) {
                return i;
            }
            then.minute();
        }
        return -4;
    }

    int image() {
        picture = now.twin();
        return now.minute;
    }

    int restore() {
        if (picture == null) {
            return -3;
        }
        now = picture.twin();
        return now.minute;
    }

    int count(int what) {
        return switch (what) {
            case 0 -> now.glasses.size();
            case 1 -> now.guests.size();
            case 2 -> now.tray;
            case 3 -> now.minute;
            case 4 -> now.glasses.stream().mapToInt(g -> g.fill).sum();
            case 5 -> now.colds();
            case 6 -> (int) now.glasses.stream().filter(g -> g.where() == 20).count();
            default -> -1;
        };
    }

    int keep(int d, int what, int k, int figure) {
        if (!isIn(0, d, 7) || !isIn(0, what, 1) || what == 1 && !(isIn(0, k, 7) && isIn(0, figure, 9))) {
            return -1;
        }
        shelves[d] = what == 0 ? null : Glass.of(k, -1, figure, 9);
        return 0;
    }

    int row(int d, int sort, int n) {
        if (!isIn(0, d, 7) || !isIn(0, sort, 2) || n > 100) {
            return -1;
        }
        if (n < 0) {
            return -14;
        }
        shelves[d] = sort == 0 ? new byte[n] : sort == 1 ? new short[n] : new int[n];
        return 0;
    }

    private static int sort(Object row) {
        return row instanceof byte[] ? 0 : row instanceof short[] ? 1 : 2;
    }

    private static int size(Object row) {
        return java.lang.reflect.Array.getLength(row);
    }

    private static long elementOf(Object row, int i) {
        return java.lang.reflect.Array.getLong(row, i);
    }

    int put(int d, int i, int v) {
        if (!isIn(0, d, 7)) {
            return -1;
        }
        if (shelves[d] == null) {
            return -11;
        }
        if (shelves[d] instanceof Glass) {
            return -12;
        }
        if (!isIn(0, i, size(shelves[d]) - 1)) {
            return -13;
        }
        if (shelves[d] instanceof byte[] bytes) {
            bytes[i] = (byte) v;
        } else if (shelves[d] instanceof short[] shorts) {
            shorts[i] = (short) v;
        } else if (shelves[d] instanceof int[] ints) {
            ints[i] = v;
        }
        return 0;
    }

    long element(int d, int i) {
        if (!isIn(0, d, 7)) {
            throw new IllegalArgumentException();
        }
        if (shelves[d] == null || shelves[d] instanceof Glass || !isIn(0, i, size(shelves[d]) - 1)) {
            throw new IllegalStateException();
        }
        return elementOf(shelves[d], i);
    }

    int copy(int d, int i, int e, int j, int n) {
        if (!isIn(0, d, 7) || !isIn(0, e, 7)) {
            return -1;
        }
        if (shelves[d] == null || shelves[e] == null) {
            return -11;
        }
        if (shelves[d] instanceof Glass || shelves[e] instanceof Glass || sort(shelves[d]) != sort(shelves[e])) {
            return -12;
        }
        long fromEnd = (long) i + n;
        long toEnd = (long) j + n;
        if (i < 0 || j < 0 || n < 0 || fromEnd > size(shelves[d]) || toEnd > size(shelves[e])) {
            return -13;
        }
        System.arraycopy(shelves[d], i, shelves[e], j, n);
        return n;
    }

    int cost(int d) {
        if (!isIn(0, d, 7)) {
            return -1;
        }
        return shelves[d] == null ? -11 : shelves[d] instanceof Glass g ? g.cost() : -12;
    }

    int toss(int d) {
        if (!isIn(0, d, 7)) {
            return -1;
        }
        return shelves[d] == null ? -11 : shelves[d] instanceof Glass g ? g.toss() : -12;
    }
}
