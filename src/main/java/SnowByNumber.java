import java.util.Arrays;

/**
 * Snow by number: a barn in which all snow lies in the order in which it fell.
 * A TEXT tells the FALLS and what the barn bears; calls let them come in,
 * thaw, are sold, are swapped, and ask what is kept and of which YEAR it is.
 *
 * All rows are made in the constructor: no call makes an object.
 */
public final class SnowByNumber {
    public static final int BAD = -1, NO = -2, FULL = -3, NONE = -4;

    private static final int MOST_BYTES = 400;
    private static final int MOST_NUMBERS = 4;
    private static final int MOST_FIGURES = 3;
    private static final int MOST_FALLS = 12;
    private static final int MOST_SALES = 8;
    private static final int MOST_MARKS = 14;
    private static final int MOST_KEPT = 2;
    private static final int MOST_THAWS = 6;
    private static final int YEARS = 100;
    private static final int DOORS = 3;
    private static final int WINTERS = 10000;
    private static final int NO_WINTER = -1;

    private final Text text = new Text();
    private Told laid = new Told();
    private Told draft = new Told();
    private final Barn barn = new Barn();
    private final Barn keptFirst = new Barn();
    private final Barn keptSecond = new Barn();
    private int keptCount = 0;
    private final Marks marks = new Marks();
    private final ThawRow thawRow = new ThawRow();
    private final Letting letting = new Letting();

    public SnowByNumber() {
        laid.addFall(0, 5, 2, 1);
    }

    // ---- barns

    public int write(int n, long v) {
        if (!inside(n, 1, 8)) {
            return BAD;
        }
        return text.append(n, v) ? text.length : FULL;
    }

    public int wipe() {
        return text.clear();
    }

    public int fault() {
        return text.tellTo(draft);
    }

    public int lay() {
        if (text.tellTo(draft) != NONE || draft.fallCount == 0) {
            return NO;
        }
        Told old = laid;
        laid = draft;
        draft = old;
        barn.clear();
        keptCount = 0;
        marks.clear();
        return laid.fallCount;
    }

    public int falls(int i, int what) {
        if (!inside(i, 0, laid.fallCount - 1)) {
            return BAD;
        }
        switch (what) {
            case 0: return laid.year[i];
            case 1: return laid.inches[i];
            case 2: return laid.heavy[i];
            case 3: return laid.dust[i];
            case 4: return laid.costOf(i);
            default: return BAD;
        }
    }

    public int fall() {
        int next = barn.count;
        if (next >= laid.fallCount) {
            return NO;
        }
        int tenths = 10 * laid.inches[next];
        if (!laid.bears(barn.high() + tenths, barn.load(laid) + tenths * laid.heavy[next])) {
            return FULL;
        }
        barn.comeIn(tenths, laid.dust[next]);
        return barn.count;
    }

    public int layer(int i, int what) {
        if (!barn.has(i)) {
            return BAD;
        }
        switch (what) {
            case 0: return barn.tenths[i];
            case 1: return barn.shown[i];
            case 2: return barn.doorOf(i);
            default: return BAD;
        }
    }

    public int firstOut() {
        int first = firstThatCannot(barn.count, barn.high(), barn.load(laid), NO_WINTER);
        return first == laid.fallCount ? NONE : first;
    }

    public int thaw(int door) {
        if (!inside(door, 0, DOORS - 1)) {
            return BAD;
        }
        return barn.melt(door, laid.thaw);
    }

    public int doors(int k, int i) {
        if (!inside(k, 1, MOST_THAWS) || !inside(i, -1, k - 1)) {
            return BAD;
        }
        thawRow.choose(k, barn, laid);
        return i == -1 ? thawRow.lost : thawRow.doorAt(i);
    }

    public int sell(int i, int q) {
        if (!barn.has(i) || !inside(q, 1, 200)) {
            return BAD;
        }
        if (barn.tenths[i] < q) {
            return NO;
        }
        int paid = q * laid.costOf(i) / 10;
        barn.addSale(i, q, paid);
        return paid;
    }

    public int undo() {
        return barn.takeSaleBack();
    }

    public int swap(int i, int dust) {
        if (!barn.has(i) || !inside(dust, 0, 9)) {
            return BAD;
        }
        int showed = barn.shown[i];
        barn.shown[i] = dust;
        return showed;
    }

    // ---- what is kept, of which year

    public int letGo(int l, int w, int what) {
        if (!inside(l, 1, 999) || !inside(w, 1, 99) || !inside(what, 0, 2)) {
            return BAD;
        }
        letting.choose(10 * w, 10 * l, barn, laid);
        if (what == 0) {
            return letting.bestSet;
        }
        return what == 1 ? letting.bestYears : letting.bestTenths;
    }

    public int odds(int dust, int heavy, int year, int part) {
        if (!isPiece(dust, heavy) || !isYear(year) || !inside(part, 0, 1)) {
            return BAD;
        }
        int all = weightOfAll(dust, heavy);
        if (all == 0) {
            return NONE;
        }
        int own = weightOfYear(dust, heavy, year);
        int common = Math.max(1, commonDivisor(all, own));
        return (part == 0 ? own : all) / common;
    }

    public int likeliest(int dust, int heavy) {
        if (!isPiece(dust, heavy)) {
            return BAD;
        }
        int likeliest = NONE;
        int most = 0;
        // LAYERS lie by rising YEAR, so the lowest of equal YEARS is met first.
        for (int i = 0; i < barn.count; i++) {
            int weight = weightOfYear(dust, heavy, laid.year[i]);
            if (weight > most) {
                most = weight;
                likeliest = laid.year[i];
            }
        }
        return likeliest;
    }

    public int mark(int dust) {
        if (!inside(dust, 0, 9)) {
            return BAD;
        }
        return marks.add(dust) ? marks.count : FULL;
    }

    public int noMarks() {
        return marks.clear();
    }

    public int far() {
        return marks.changesTo(barn);
    }

    public int odd() {
        return marks.changesTo(barn) == 0 ? NONE : marks.firstUnlike(barn);
    }

    public int wish(int year) {
        return isYear(year) ? tenthsOfYear(year) : BAD;
    }

    public int nearest(int year, int q) {
        if (!isYear(year) || !inside(q, 1, 999)) {
            return BAD;
        }
        int nearest = NONE;
        int leastApart = YEARS;
        // LAYERS lie by rising YEAR, so the lower of two as near is met first.
        for (int i = 0; i < barn.count; i++) {
            int apart = Math.abs(laid.year[i] - year);
            if (apart < leastApart && tenthsOfYear(laid.year[i]) >= q) {
                leastApart = apart;
                nearest = laid.year[i];
            }
        }
        return nearest;
    }

    public int moved(int w) {
        if (!inside(w, 10, 9990)) {
            return BAD;
        }
        int loads = 0;
        int onThisLoad = 0;
        for (int i = 0; i < barn.count; i++) {
            int load = barn.tenths[i] * laid.heavy[i];
            if (load > w) {
                return NONE;
            }
            if (load > 0 && (loads == 0 || onThisLoad + load > w)) {
                loads++;
                onThisLoad = 0;
            }
            onThisLoad += load;
        }
        // Only the lowest load goes straight to the new barn.
        return loads == 0 ? 0 : 2 * loads - 1;
    }

    // ---- rents, winters

    public long rent(int n) {
        if (!inside(n, 1, 999999)) {
            return BAD;
        }
        long worth = 0;
        for (int i = 0; i < barn.count; i++) {
            worth += barn.tenths[i] * laid.costOf(i);
        }
        return n * worth / 100;
    }

    public int winter(int z) {
        return isWinter(z) ? firstThatCannot(0, 0, 0, z) : BAD;
    }

    public int ten(int z) {
        if (!isWinter(z)) {
            return BAD;
        }
        int whole = 0;
        for (int k = 0; k < 10; k++) {
            if (firstThatCannot(0, 0, 0, (z + k) % WINTERS) == laid.fallCount) {
                whole++;
            }
        }
        return whole;
    }

    public int keep() {
        if (keptCount >= MOST_KEPT) {
            return FULL;
        }
        keptAt(keptCount).copyFrom(barn);
        keptCount++;
        return keptCount;
    }

    public int back() {
        if (keptCount == 0) {
            return NO;
        }
        keptCount--;
        barn.copyFrom(keptAt(keptCount));
        return keptCount;
    }

    public int count(int what) {
        switch (what) {
            case 0: return laid.fallCount;
            case 1: return barn.count;
            case 2: return barn.high();
            case 3: return barn.load(laid);
            case 4: return barn.coin;
            case 5: return barn.saleCount;
            case 6: return marks.count;
            case 7: return keptCount;
            case 8: return text.length;
            default: return BAD;
        }
    }

    private static boolean inside(int n, int least, int most) {
        return n >= least && n <= most;
    }

    private static boolean isYear(int year) {
        return inside(year, 0, YEARS - 1);
    }

    private static boolean isWinter(int z) {
        return inside(z, 0, WINTERS - 1);
    }

    private static boolean isPiece(int dust, int heavy) {
        return inside(dust, 0, 9) && inside(heavy, 1, 9);
    }

    private Barn keptAt(int i) {
        return i == 0 ? keptFirst : keptSecond;
    }

    /** The first FALL from one on that can't come in; how many FALLS there are, if all can. */
    private int firstThatCannot(int from, int high, int load, int z) {
        for (int i = from; i < laid.fallCount; i++) {
            int tenths = 10 * (laid.inches[i] + moreInches(i, z));
            high += tenths;
            load += tenths * laid.heavy[i];
            if (!laid.bears(high, load)) {
                return i;
            }
        }
        return laid.fallCount;
    }

    private int moreInches(int i, int z) {
        if (z == NO_WINTER) {
            return 0;
        }
        long x = 7919L * z + 6151L * i + 1;
        int choices = Math.max(1, laid.more + 1);
        return (int) (x * x % 65521 % choices);
    }

    private int weightOf(int i, int dust, int heavy) {
        int byDust = dust == laid.dust[i] ? 10 - laid.slip : laid.slip;
        int byHeavy = heavy == laid.heavy[i] ? 9 : 1;
        return barn.tenths[i] * byDust * byHeavy;
    }

    private int weightOfAll(int dust, int heavy) {
        int weight = 0;
        for (int i = 0; i < barn.count; i++) {
            weight += weightOf(i, dust, heavy);
        }
        return weight;
    }

    private int weightOfYear(int dust, int heavy, int year) {
        int weight = 0;
        for (int i = 0; i < barn.count; i++) {
            if (laid.year[i] == year) {
                weight += weightOf(i, dust, heavy);
            }
        }
        return weight;
    }

    private int tenthsOfYear(int year) {
        int tenths = 0;
        for (int i = 0; i < barn.count; i++) {
            if (laid.year[i] == year) {
                tenths += barn.tenths[i];
            }
        }
        return tenths;
    }

    private static int commonDivisor(int a, int b) {
        // Euclid takes fewer than 50 steps for any two ints.
        for (int step = 0; step < 64 && b != 0; step++) {
            int rest = a % b;
            a = b;
            b = rest;
        }
        return a;
    }

    /** THE TEXT. */
    private static final class Text {
        private final byte[] bytes = new byte[MOST_BYTES];
        private int length = 0;
        private final int[] numbers = new int[MOST_NUMBERS];
        private int numberCount = 0;
        private int figures = 0;
        private int value = 0;

        boolean append(int n, long v) {
            if (n > MOST_BYTES - length) {
                return false;
            }
            for (int k = n - 1; k >= 0; k--) {
                bytes[length] = (byte) (v >>> 8 * k);
                length++;
            }
            return true;
        }

        int clear() {
            int was = length;
            length = 0;
            return was;
        }

        /** Tells the ITEMS one by one: the first byte of the first that is not so, or NONE. */
        int tellTo(Told told) {
            told.forget();
            int start = 0;
            for (int at = 0; at < length; at++) {
                byte b = bytes[at];
                if (at == start) {
                    startItem();
                } else if (b >= '0' && b <= '9') {
                    if (!addFigure(b - '0')) {
                        return start;
                    }
                } else if (b != ',' && b != ';' || !endNumber()) {
                    return start;
                } else if (b == ';') {
                    if (!told.take(bytes[start], numbers, numberCount)) {
                        return start;
                    }
                    start = at + 1;
                }
            }
            return start == length ? NONE : start;
        }

        private void startItem() {
            numberCount = 0;
            figures = 0;
            value = 0;
        }

        private boolean addFigure(int figure) {
            if (figures >= MOST_FIGURES) {
                return false;
            }
            figures++;
            value = 10 * value + figure;
            return true;
        }

        private boolean endNumber() {
            if (figures == 0 || numberCount >= MOST_NUMBERS) {
                return false;
            }
            numbers[numberCount] = value;
            numberCount++;
            figures = 0;
            value = 0;
            return true;
        }
    }

    /** What a TEXT tells. */
    private static final class Told {
        private int beams;
        private int roof;
        private int thaw;
        private int slip;
        private int more;
        private int fallCount;
        private final int[] year = new int[MOST_FALLS];
        private final int[] inches = new int[MOST_FALLS];
        private final int[] heavy = new int[MOST_FALLS];
        private final int[] dust = new int[MOST_FALLS];
        private final int[] costOfYear = new int[YEARS];

        Told() {
            forget();
        }

        void forget() {
            beams = 400;
            roof = 60;
            thaw = 5;
            slip = 1;
            more = 0;
            fallCount = 0;
            Arrays.fill(costOfYear, 10);
        }

        /** Takes an ITEM, if it is so. */
        boolean take(int letter, int[] numbers, int count) {
            switch (letter) {
                case 'b':
                    return count == 2 && setBarn(numbers[0], numbers[1]);
                case 'f':
                    return count == 4 && addFall(numbers[0], numbers[1], numbers[2], numbers[3]);
                case 'p':
                    return count == 2 && setCost(numbers[0], numbers[1]);
                case 't':
                case 's':
                case 'v':
                    return count == 1 && setOne(letter, numbers[0]);
                default:
                    return false;
            }
        }

        private boolean setBarn(int l, int w) {
            if (!inside(l, 1, 999) || !inside(w, 1, 99)) {
                return false;
            }
            beams = l;
            roof = w;
            return true;
        }

        boolean addFall(int y, int i, int d, int m) {
            boolean so = isYear(y) && inside(i, 1, 20) && inside(d, 1, 9) && inside(m, 0, 9);
            if (!so || fallCount >= MOST_FALLS || fallCount > 0 && y < year[fallCount - 1]) {
                return false;
            }
            year[fallCount] = y;
            inches[fallCount] = i;
            heavy[fallCount] = d;
            dust[fallCount] = m;
            fallCount++;
            return true;
        }

        private boolean setCost(int y, int c) {
            if (!isYear(y) || !inside(c, 0, 99)) {
                return false;
            }
            costOfYear[y] = c;
            return true;
        }

        private boolean setOne(int letter, int n) {
            if (letter == 't' && inside(n, 1, 50)) {
                thaw = n;
            } else if (letter == 's' && inside(n, 0, 4)) {
                slip = n;
            } else if (letter == 'v' && inside(n, 0, 9)) {
                more = n;
            } else {
                return false;
            }
            return true;
        }

        /** What an inch of FALL i costs. */
        int costOf(int i) {
            return costOfYear[year[i]];
        }

        boolean bears(int high, int load) {
            return high <= 10 * roof && load <= 10 * beams;
        }
    }

    /** THE BARN, or one that is KEPT: its LAYERS, coin and SALES. */
    private static final class Barn {
        private int count = 0;
        private final int[] tenths = new int[MOST_FALLS];
        private final int[] shown = new int[MOST_FALLS];
        private int coin = 0;
        private int saleCount = 0;
        private final int[] saleLayer = new int[MOST_SALES];
        private final int[] saleTenths = new int[MOST_SALES];
        private final int[] salePaid = new int[MOST_SALES];

        void clear() {
            count = 0;
            coin = 0;
            saleCount = 0;
        }

        void copyFrom(Barn other) {
            count = other.count;
            coin = other.coin;
            saleCount = other.saleCount;
            for (int i = 0; i < MOST_FALLS; i++) {
                tenths[i] = other.tenths[i];
                shown[i] = other.shown[i];
            }
            for (int i = 0; i < MOST_SALES; i++) {
                saleLayer[i] = other.saleLayer[i];
                saleTenths[i] = other.saleTenths[i];
                salePaid[i] = other.salePaid[i];
            }
        }

        boolean has(int i) {
            return inside(i, 0, count - 1);
        }

        int high() {
            int sum = 0;
            for (int i = 0; i < count; i++) {
                sum += tenths[i];
            }
            return sum;
        }

        int load(Told told) {
            int sum = 0;
            for (int i = 0; i < count; i++) {
                sum += tenths[i] * told.heavy[i];
            }
            return sum;
        }

        void comeIn(int tenthsOfFall, int dust) {
            if (count < MOST_FALLS) {
                tenths[count] = tenthsOfFall;
                shown[count] = dust;
                count++;
            }
        }

        int doorOf(int i) {
            return DOORS * i / Math.max(1, count);
        }

        int melt(int door, int most) {
            int melted = 0;
            for (int i = 0; i < count; i++) {
                if (doorOf(i) == door) {
                    int less = Math.min(tenths[i], most);
                    tenths[i] -= less;
                    melted += less;
                }
            }
            return melted;
        }

        void addSale(int i, int q, int paid) {
            if (saleCount >= MOST_SALES) {
                forgetOldestSale();
            }
            tenths[i] -= q;
            coin += paid;
            saleLayer[saleCount] = i;
            saleTenths[saleCount] = q;
            salePaid[saleCount] = paid;
            saleCount++;
        }

        private void forgetOldestSale() {
            for (int i = 1; i < MOST_SALES; i++) {
                saleLayer[i - 1] = saleLayer[i];
                saleTenths[i - 1] = saleTenths[i];
                salePaid[i - 1] = salePaid[i];
            }
            saleCount = MOST_SALES - 1;
        }

        /** The last SALE is undone: its tenths; NO without one. */
        int takeSaleBack() {
            if (saleCount == 0) {
                return NO;
            }
            saleCount--;
            tenths[saleLayer[saleCount]] += saleTenths[saleCount];
            coin -= salePaid[saleCount];
            return saleTenths[saleCount];
        }
    }

    /** The row of DOORS by which least is lost. */
    private static final class ThawRow {
        private final int[][] lostBy = new int[DOORS][MOST_THAWS + 1];
        private int lost = 0;
        private int first = 0;
        private int second = 0;

        /**
         * What is lost depends only on how often each DOOR is opened, so the first
         * row of several has its DOORS in rising order: as many 0 as can be, then 1.
         */
        void choose(int k, Barn barn, Told told) {
            weigh(k, barn, told);
            for (int zeros = k; zeros >= 0; zeros--) {
                for (int ones = k - zeros; ones >= 0; ones--) {
                    int sum = lostBy[0][zeros] + lostBy[1][ones] + lostBy[2][k - zeros - ones];
                    // The row of DOOR 0 alone is looked at first; what an earlier call found is none to beat.
                    if (zeros == k || sum < lost) {
                        lost = sum;
                        first = zeros;
                        second = ones;
                    }
                }
            }
        }

        int doorAt(int i) {
            if (i < first) {
                return 0;
            }
            return i < first + second ? 1 : 2;
        }

        private void weigh(int k, Barn barn, Told told) {
            for (int times = 0; times <= k; times++) {
                for (int door = 0; door < DOORS; door++) {
                    lostBy[door][times] = 0;
                }
                for (int i = 0; i < barn.count; i++) {
                    int melted = Math.min(barn.tenths[i], times * told.thaw);
                    lostBy[barn.doorOf(i)][times] += melted * told.costOf(i);
                }
            }
        }
    }

    /** The set of LAYERS to let go, sought among all sets, by rising bits. */
    private static final class Letting {
        private final int[] layersOfYear = new int[YEARS];
        private int high = 0;
        private int load = 0;
        private int years = 0;
        private int bestSet = 0;
        private int bestYears = 0;
        private int bestTenths = 0;

        void choose(int mostHigh, int mostLoad, Barn barn, Told told) {
            startWithAll(barn, told);
            bestSet = 0;
            bestYears = -1;
            bestTenths = -1;
            for (int set = 0; set < 1 << barn.count; set++) {
                if (high <= mostHigh && load <= mostLoad && isBetter()) {
                    bestSet = set;
                    bestYears = years;
                    bestTenths = high;
                }
                goOn(set, barn, told);
            }
        }

        private void startWithAll(Barn barn, Told told) {
            Arrays.fill(layersOfYear, 0);
            high = 0;
            load = 0;
            years = 0;
            for (int i = 0; i < barn.count; i++) {
                putBack(barn.tenths[i], told.heavy[i], told.year[i]);
            }
        }

        private boolean isBetter() {
            return years > bestYears || years == bestYears && high > bestTenths;
        }

        /** From a set to the next one: its lowest LAYERS come back, the one behind them goes. */
        private void goOn(int set, Barn barn, Told told) {
            for (int i = 0; i < barn.count; i++) {
                if ((set >> i & 1) == 0) {
                    takeOut(barn.tenths[i], told.heavy[i], told.year[i]);
                    return;
                }
                putBack(barn.tenths[i], told.heavy[i], told.year[i]);
            }
        }

        private void putBack(int tenths, int heavy, int year) {
            if (tenths > 0) {
                high += tenths;
                load += tenths * heavy;
                years += layersOfYear[year] == 0 ? 1 : 0;
                layersOfYear[year]++;
            }
        }

        private void takeOut(int tenths, int heavy, int year) {
            if (tenths > 0) {
                high -= tenths;
                load -= tenths * heavy;
                layersOfYear[year]--;
                years -= layersOfYear[year] == 0 ? 1 : 0;
            }
        }
    }

    /** The MARKS that were read. */
    private static final class Marks {
        private final int[] dusts = new int[MOST_MARKS];
        private int count = 0;
        private final int[] changes = new int[MOST_MARKS + 1];

        boolean add(int dust) {
            if (count >= MOST_MARKS) {
                return false;
            }
            dusts[count] = dust;
            count++;
            return true;
        }

        int clear() {
            int was = count;
            count = 0;
            return was;
        }

        /** The fewest changes by which they become what the LAYERS show. */
        int changesTo(Barn barn) {
            for (int k = 0; k <= count; k++) {
                changes[k] = k;
            }
            for (int i = 0; i < barn.count; i++) {
                if (barn.tenths[i] > 0) {
                    addLayer(barn.shown[i]);
                }
            }
            return changes[count];
        }

        /** changes[k]: of the first k MARKS to the LAYERS so far; now with one LAYER more. */
        private void addLayer(int shown) {
            int across = changes[0];
            changes[0]++;
            for (int k = 1; k <= count; k++) {
                int other = across + (dusts[k - 1] == shown ? 0 : 1);
                across = changes[k];
                changes[k] = Math.min(other, 1 + Math.min(across, changes[k - 1]));
            }
        }

        /**
         * The lowest LAYER with some tenths that is not as its MARK; how many LAYERS
         * there are, if none is. What lies behind alike ones is always as far as the
         * whole, so they need not be measured again.
         */
        int firstUnlike(Barn barn) {
            int alike = 0;
            for (int i = 0; i < barn.count; i++) {
                if (barn.tenths[i] > 0) {
                    if (alike >= count || dusts[alike] != barn.shown[i]) {
                        return i;
                    }
                    alike++;
                }
            }
            return barn.count;
        }
    }
}
