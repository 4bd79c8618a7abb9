import java.util.ArrayList;
import java.util.Arrays;
import java.util.List;
import java.util.Random;
import java.util.regex.Pattern;

// Drawn runs of calls, each answer held against a slow model that follows the document word by word.
public final class ModelTest {
    private static final int BAD = -1, NO = -2, FULL = -3, NONE = -4;
    private static final int RUNS = 1500;
    private static final int CALLS = 512;

    /** A LAYER of the model. */
    private static final class Layer {
        int year, heavy, dust, tenths, shown;

        Layer copy() {
            Layer c = new Layer();
            c.year = year;
            c.heavy = heavy;
            c.dust = dust;
            c.tenths = tenths;
            c.shown = shown;
            return c;
        }
    }

    /** What is KEPT: LAYERS, coin, SALES (each: LAYER, tenths, coin). */
    private static final class State {
        List<Layer> layers = new ArrayList<>();
        int coin = 0;
        List<int[]> sales = new ArrayList<>();

        State copy() {
            State c = new State();
            for (Layer l : layers) {
                c.layers.add(l.copy());
            }
            c.coin = coin;
            c.sales.addAll(sales);
            return c;
        }
    }

    /** What a TEXT tells, read with patterns. */
    private static final class Told {
        int beams = 400, roof = 60, thaw = 5, slip = 1, more = 0, fault = NONE;
        List<int[]> falls = new ArrayList<>();
        int[] cost = new int[100];

        Told(String text) {
            Arrays.fill(cost, 10);
            int at = 0;
            while (at < text.length() && fault == NONE) {
                int end = text.indexOf(';', at);
                if (end < 0 || !item(text.substring(at, end))) {
                    fault = at;
                } else {
                    at = end + 1;
                }
            }
        }

        private boolean item(String item) {
            if (!Pattern.matches("[bftpsv][0-9]{1,3}(,[0-9]{1,3})*", item)) {
                return false;
            }
            String[] parts = item.substring(1).split(",");
            int[] n = new int[parts.length];
            for (int k = 0; k < n.length; k++) {
                n[k] = Integer.parseInt(parts[k]);
            }
            char letter = item.charAt(0);
            if (letter == 'b' && fits(n, 1, 999, 1, 99)) {
                beams = n[0];
                roof = n[1];
            } else if (letter == 'f' && fits(n, 0, 99, 1, 20, 1, 9, 0, 9) && falls.size() < 12
                && (falls.isEmpty() || falls.get(falls.size() - 1)[0] <= n[0])) {
                falls.add(n);
            } else if (letter == 't' && fits(n, 1, 50)) {
                thaw = n[0];
            } else if (letter == 'p' && fits(n, 0, 99, 0, 99)) {
                cost[n[0]] = n[1];
            } else if (letter == 's' && fits(n, 0, 4)) {
                slip = n[0];
            } else if (letter == 'v' && fits(n, 0, 9)) {
                more = n[0];
            } else {
                return false;
            }
            return true;
        }

        private static boolean fits(int[] n, int... bounds) {
            boolean fits = 2 * n.length == bounds.length;
            for (int k = 0; fits && k < n.length; k++) {
                fits = bounds[2 * k] <= n[k] && n[k] <= bounds[2 * k + 1];
            }
            return fits;
        }
    }

    /** The model of the whole object. */
    private static final class Model {
        StringBuilder text = new StringBuilder();
        Told told = new Told("f0,5,2,1;");
        State now = new State();
        List<State> kept = new ArrayList<>();
        List<Integer> marks = new ArrayList<>();

        int write(int n, long v) {
            if (n < 1 || n > 8) {
                return BAD;
            }
            if (text.length() + n > 400) {
                return FULL;
            }
            for (int k = n - 1; k >= 0; k--) {
                text.append((char) (v >> 8 * k & 255));
            }
            return text.length();
        }

        int wipe() {
            int was = text.length();
            text.setLength(0);
            return was;
        }

        int fault() {
            return new Told(text.toString()).fault;
        }

        int lay() {
            Told read = new Told(text.toString());
            if (read.fault != NONE || read.falls.isEmpty()) {
                return NO;
            }
            told = read;
            now = new State();
            kept.clear();
            marks.clear();
            return told.falls.size();
        }

        int falls(int i, int what) {
            if (i < 0 || i >= told.falls.size() || what < 0 || what > 4) {
                return BAD;
            }
            int[] f = told.falls.get(i);
            return what < 4 ? f[what] : told.cost[f[0]];
        }

        int high(List<Layer> layers) {
            return layers.stream().mapToInt(l -> l.tenths).sum();
        }

        int load(List<Layer> layers) {
            return layers.stream().mapToInt(l -> l.tenths * l.heavy).sum();
        }

        boolean comesIn(List<Layer> layers, int i, int more) {
            int[] f = told.falls.get(i);
            Layer l = new Layer();
            l.year = f[0];
            l.tenths = 10 * (f[1] + more);
            l.heavy = f[2];
            l.dust = f[3];
            l.shown = f[3];
            layers.add(l);
            if (high(layers) <= 10 * told.roof && load(layers) <= 10 * told.beams) {
                return true;
            }
            layers.remove(layers.size() - 1);
            return false;
        }

        int fall() {
            if (now.layers.size() == told.falls.size()) {
                return NO;
            }
            return comesIn(now.layers, now.layers.size(), 0) ? now.layers.size() : FULL;
        }

        boolean has(int i) {
            return i >= 0 && i < now.layers.size();
        }

        int door(int i) {
            return 3 * i / now.layers.size();
        }

        int layer(int i, int what) {
            if (!has(i) || what < 0 || what > 2) {
                return BAD;
            }
            Layer l = now.layers.get(i);
            return what == 0 ? l.tenths : what == 1 ? l.shown : door(i);
        }

        int firstOut() {
            State s = now.copy();
            for (int i = now.layers.size(); i < told.falls.size(); i++) {
                if (!comesIn(s.layers, i, 0)) {
                    return i;
                }
            }
            return NONE;
        }

        int[] melt(List<Layer> layers, int door) {
            int melted = 0;
            int lost = 0;
            for (int i = 0; i < layers.size(); i++) {
                Layer l = layers.get(i);
                if (door(i) == door) {
                    int less = Math.min(told.thaw, l.tenths);
                    l.tenths -= less;
                    melted += less;
                    lost += less * told.cost[l.year];
                }
            }
            return new int[] {melted, lost};
        }

        int thaw(int door) {
            return door < 0 || door > 2 ? BAD : melt(now.layers, door)[0];
        }

        int doors(int k, int i) {
            if (k < 1 || k > 6 || i < -1 || i >= k) {
                return BAD;
            }
            int rows = (int) Math.round(Math.pow(3, k));
            int least = Integer.MAX_VALUE;
            int[] best = null;
            for (int row = 0; row < rows; row++) {
                int[] doors = new int[k];
                int rest = row;
                for (int at = k - 1; at >= 0; at--) {
                    doors[at] = rest % 3;
                    rest /= 3;
                }
                List<Layer> layers = now.copy().layers;
                int lost = 0;
                for (int door : doors) {
                    lost += melt(layers, door)[1];
                }
                if (lost < least) {
                    least = lost;
                    best = doors;
                }
            }
            return i == -1 ? least : best[i];
        }

        int sell(int i, int q) {
            if (!has(i) || q < 1 || q > 200) {
                return BAD;
            }
            Layer l = now.layers.get(i);
            if (l.tenths < q) {
                return NO;
            }
            int paid = q * told.cost[l.year] / 10;
            l.tenths -= q;
            now.coin += paid;
            now.sales.add(new int[] {i, q, paid});
            if (now.sales.size() > 8) {
                now.sales.remove(0);
            }
            return paid;
        }

        int undo() {
            if (now.sales.isEmpty()) {
                return NO;
            }
            int[] sale = now.sales.remove(now.sales.size() - 1);
            now.layers.get(sale[0]).tenths += sale[1];
            now.coin -= sale[2];
            return sale[1];
        }

        int swap(int i, int dust) {
            if (!has(i) || dust < 0 || dust > 9) {
                return BAD;
            }
            int showed = now.layers.get(i).shown;
            now.layers.get(i).shown = dust;
            return showed;
        }

        int letGo(int l, int w, int what) {
            if (l < 1 || l > 999 || w < 1 || w > 99 || what < 0 || what > 2) {
                return BAD;
            }
            int[] best = null;
            for (int set = 0; set < 1 << now.layers.size(); set++) {
                List<Layer> left = new ArrayList<>();
                for (int i = 0; i < now.layers.size(); i++) {
                    if ((set & 1 << i) == 0) {
                        left.add(now.layers.get(i));
                    }
                }
                if (high(left) <= 10 * w && load(left) <= 10 * l) {
                    int years = (int) left.stream().filter(x -> x.tenths > 0).mapToInt(x -> x.year).distinct().count();
                    int tenths = high(left);
                    if (best == null || years > best[1] || years == best[1] && tenths > best[2]) {
                        best = new int[] {set, years, tenths};
                    }
                }
            }
            return best[what];
        }

        int weight(int dust, int heavy, int year) {
            int sum = 0;
            for (Layer l : now.layers) {
                if (year < 0 || l.year == year) {
                    sum += l.tenths * (dust == l.dust ? 10 - told.slip : told.slip) * (heavy == l.heavy ? 9 : 1);
                }
            }
            return sum;
        }

        int odds(int dust, int heavy, int year, int part) {
            if (dust < 0 || dust > 9 || heavy < 1 || heavy > 9 || year < 0 || year > 99 || part < 0 || part > 1) {
                return BAD;
            }
            int all = weight(dust, heavy, -1);
            if (all == 0) {
                return NONE;
            }
            int own = weight(dust, heavy, year);
            int common = java.math.BigInteger.valueOf(all).gcd(java.math.BigInteger.valueOf(own)).intValue();
            return part == 0 ? own / common : all / common;
        }

        int likeliest(int dust, int heavy) {
            if (dust < 0 || dust > 9 || heavy < 1 || heavy > 9) {
                return BAD;
            }
            int best = NONE;
            for (int year = 99; year >= 0; year--) {
                int own = weight(dust, heavy, year);
                if (own > 0 && (best == NONE || own >= weight(dust, heavy, best))) {
                    best = year;
                }
            }
            return best;
        }

        int mark(int dust) {
            if (dust < 0 || dust > 9) {
                return BAD;
            }
            if (marks.size() == 14) {
                return FULL;
            }
            marks.add(dust);
            return marks.size();
        }

        int noMarks() {
            int was = marks.size();
            marks.clear();
            return was;
        }

        List<Integer> shown() {
            List<Integer> shown = new ArrayList<>();
            for (Layer l : now.layers) {
                if (l.tenths > 0) {
                    shown.add(l.shown);
                }
            }
            return shown;
        }

        /** The fewest changes, sought round by round through a table of suffixes. */
        int changes(List<Integer> a, List<Integer> b) {
            int[][] table = new int[a.size() + 1][b.size() + 1];
            for (int i = a.size(); i >= 0; i--) {
                for (int k = b.size(); k >= 0; k--) {
                    if (i == a.size() || k == b.size()) {
                        table[i][k] = a.size() - i + b.size() - k;
                    } else if (a.get(i).intValue() == b.get(k).intValue()) {
                        table[i][k] = table[i + 1][k + 1];
                    } else {
                        table[i][k] = 1 + Math.min(table[i + 1][k + 1], Math.min(table[i + 1][k], table[i][k + 1]));
                    }
                }
            }
            return table[0][0];
        }

        int far() {
            return changes(marks, shown());
        }

        int odd() {
            List<Integer> shown = shown();
            int far = far();
            if (far == 0) {
                return NONE;
            }
            int alike = 0;
            while (alike < marks.size() && alike < shown.size()
                && marks.get(alike).intValue() == shown.get(alike).intValue()
                && changes(marks.subList(alike + 1, marks.size()), shown.subList(alike + 1, shown.size())) == far) {
                alike++;
            }
            for (int i = 0; i < now.layers.size(); i++) {
                if (now.layers.get(i).tenths > 0 && alike-- == 0) {
                    return i;
                }
            }
            return now.layers.size();
        }

        int wish(int year) {
            return year < 0 || year > 99 ? BAD
                : now.layers.stream().filter(l -> l.year == year).mapToInt(l -> l.tenths).sum();
        }

        int nearest(int year, int q) {
            if (year < 0 || year > 99 || q < 1 || q > 999) {
                return BAD;
            }
            for (int apart = 0; apart < 100; apart++) {
                if (wish(year - apart) >= q) {
                    return year - apart;
                }
                if (wish(year + apart) >= q) {
                    return year + apart;
                }
            }
            return NONE;
        }

        /** All ways to part the LAYERS with some tenths into loads. */
        int moved(int w) {
            if (w < 10 || w > 9990) {
                return BAD;
            }
            List<Integer> loads = new ArrayList<>();
            for (Layer l : now.layers) {
                if (l.tenths > 0) {
                    loads.add(l.tenths * l.heavy);
                }
            }
            if (loads.isEmpty()) {
                return 0;
            }
            int least = NONE;
            for (int cuts = 0; cuts < 1 << loads.size() - 1; cuts++) {
                int together = 0;
                boolean can = true;
                for (int i = 0; i < loads.size(); i++) {
                    together = i > 0 && (cuts & 1 << i - 1) != 0 ? loads.get(i) : together + loads.get(i);
                    can &= together <= w;
                }
                int carried = 1 + 2 * Integer.bitCount(cuts);
                if (can && (least == NONE || carried < least)) {
                    least = carried;
                }
            }
            return least;
        }

        long rent(int n) {
            if (n < 1 || n > 999999) {
                return BAD;
            }
            long sum = now.layers.stream().mapToLong(l -> l.tenths * told.cost[l.year]).sum();
            return n * sum / 100;
        }

        int winter(int z) {
            if (z < 0 || z > 9999) {
                return BAD;
            }
            List<Layer> layers = new ArrayList<>();
            for (int i = 0; i < told.falls.size(); i++) {
                long x = 7919L * z + 6151L * i + 1;
                if (!comesIn(layers, i, (int) (x * x % 65521 % (told.more + 1)))) {
                    break;
                }
            }
            return layers.size();
        }

        int ten(int z) {
            if (z < 0 || z > 9999) {
                return BAD;
            }
            int whole = 0;
            for (int k = 0; k < 10; k++) {
                whole += winter((z + k) % 10000) == told.falls.size() ? 1 : 0;
            }
            return whole;
        }

        int keep() {
            if (kept.size() == 2) {
                return FULL;
            }
            kept.add(now.copy());
            return kept.size();
        }

        int back() {
            if (kept.isEmpty()) {
                return NO;
            }
            now = kept.remove(kept.size() - 1);
            return kept.size();
        }

        int count(int what) {
            int[] counts = {told.falls.size(), now.layers.size(), high(now.layers), load(now.layers), now.coin,
                now.sales.size(), marks.size(), kept.size(), text.length()};
            return what < 0 || what > 8 ? BAD : counts[what];
        }
    }

    private static final Random DRAW = new Random(20261119);
    private static int wrong = 0;
    private static int run = 0;

    private static void due(String call, long got, long want) {
        if (got != want) {
            wrong++;
            if (wrong <= 50) {
                System.out.println("run " + run + ": " + call + " answered " + got + ", due is " + want);
            }
        }
    }

    private static int draw(int least, int most) {
        return least + DRAW.nextInt(most - least + 1);
    }

    /** Mostly from least to most, at times an edge or far beyond. */
    private static int about(int least, int most) {
        int[] edges = {least, most, least - 1, most + 1, Integer.MIN_VALUE, Integer.MAX_VALUE, -draw(1, 100000)};
        return DRAW.nextInt(6) == 0 ? edges[DRAW.nextInt(edges.length)] : draw(least, most);
    }

    private static String number(int n) {
        return DRAW.nextInt(12) == 0 && n < 100 ? "0" + n : "" + n;
    }

    private static String drawText() {
        StringBuilder text = new StringBuilder();
        int falls = DRAW.nextInt(15) == 0 ? draw(0, 13) : draw(1, 12);
        int year = draw(0, 60);
        int widest = draw(1, 20);
        int heaviest = draw(1, 9);
        int dusts = draw(0, 9);
        for (int i = 0; i < falls; i++) {
            if (DRAW.nextInt(3) == 0) {
                text.append(drawSetting(year));
            }
            year = Math.min(99, year + Math.max(0, draw(-3, 8)));
            text.append('f').append(number(year)).append(',').append(number(draw(1, widest))).append(',')
                .append(number(draw(1, heaviest))).append(',').append(number(draw(0, dusts))).append(';');
        }
        for (int k = draw(0, 4); k > 0; k--) {
            text.append(drawSetting(year));
        }
        if (DRAW.nextInt(4) == 0 && text.length() > 0) {
            spoil(text);
        }
        return text.length() > 400 ? text.substring(0, 400) : text.toString();
    }

    private static String drawSetting(int year) {
        switch (DRAW.nextInt(5)) {
            case 0: return "b" + number(draw(1, DRAW.nextBoolean() ? 999 : 120)) + "," + number(draw(1, 99)) + ";";
            case 1: return "t" + number(draw(1, DRAW.nextBoolean() ? 50 : 12)) + ";";
            case 2: return "p" + number(Math.min(99, Math.max(0, year + draw(-6, 6)))) + "," + number(draw(0, 99)) + ";";
            case 3: return "s" + number(draw(0, 4)) + ";";
            default: return "v" + number(draw(0, 9)) + ";";
        }
    }

    private static void spoil(StringBuilder text) {
        int at = DRAW.nextInt(text.length());
        char sign = DRAW.nextInt(8) == 0 ? (char) DRAW.nextInt(256) : "bftpsvx0123456789,;".charAt(DRAW.nextInt(19));
        switch (DRAW.nextInt(3)) {
            case 0: text.setCharAt(at, sign); break;
            case 1: text.insert(at, sign); break;
            default: text.deleteCharAt(at);
        }
    }

    private static int writeText(SnowByNumber x, Model m, String text) {
        int calls = 0;
        for (int at = 0; at < text.length(); calls++) {
            int n = Math.min(text.length() - at, draw(4, 8));
            long v = DRAW.nextLong();
            for (int k = 0; k < n; k++) {
                v = v << 8 | text.charAt(at + k);
            }
            due("write(" + n + ", " + v + ")", x.write(n, v), m.write(n, v));
            at += n;
        }
        return calls;
    }

    private static void call(SnowByNumber x, Model m) {
        int a, b, c, d;
        int layers = Math.max(0, m.now.layers.size() - 1);
        switch (DRAW.nextInt(48)) {
            case 0: a = about(1, 8); long v = DRAW.nextLong();
                due("write(" + a + ", " + v + ")", x.write(a, v), m.write(a, v)); break;
            case 1: due("fault()", x.fault(), m.fault()); break;
            case 2: a = about(0, m.told.falls.size() - 1); b = about(0, 4);
                due("falls(" + a + ", " + b + ")", x.falls(a, b), m.falls(a, b)); break;
            case 3: case 4: case 5: case 6: case 7: case 8: due("fall()", x.fall(), m.fall()); break;
            case 9: a = about(0, layers); b = about(0, 2);
                due("layer(" + a + ", " + b + ")", x.layer(a, b), m.layer(a, b)); break;
            case 10: due("firstOut()", x.firstOut(), m.firstOut()); break;
            case 11: a = about(0, 2); due("thaw(" + a + ")", x.thaw(a), m.thaw(a)); break;
            case 12: a = about(1, 4); b = about(-1, a > 0 && a < 9 ? a - 1 : 5);
                due("doors(" + a + ", " + b + ")", x.doors(a, b), m.doors(a, b)); break;
            case 13: case 14: case 15: a = about(0, layers); b = about(1, DRAW.nextBoolean() ? 200 : 15);
                due("sell(" + a + ", " + b + ")", x.sell(a, b), m.sell(a, b)); break;
            case 16: case 17: due("undo()", x.undo(), m.undo()); break;
            case 18: a = about(0, layers); b = about(0, 9);
                due("swap(" + a + ", " + b + ")", x.swap(a, b), m.swap(a, b)); break;
            case 19: a = about(1, DRAW.nextBoolean() ? 999 : 150); b = about(1, DRAW.nextBoolean() ? 99 : 30);
                for (c = -1; c <= (m.now.layers.size() < 9 ? 3 : 0); c++) {
                    due("letGo(" + a + ", " + b + ", " + c + ")", x.letGo(a, b, c), m.letGo(a, b, c));
                }
                break;
            case 20: case 21: a = about(0, 9); b = about(1, 9); c = aYear(m); d = about(0, 1);
                due("odds(" + a + ", " + b + ", " + c + ", " + d + ")", x.odds(a, b, c, d), m.odds(a, b, c, d)); break;
            case 22: case 23: a = about(0, 9); b = about(1, 9);
                due("likeliest(" + a + ", " + b + ")", x.likeliest(a, b), m.likeliest(a, b)); break;
            case 24: case 25: case 26: case 27: a = nextMark(m); due("mark(" + a + ")", x.mark(a), m.mark(a)); break;
            case 28: if (DRAW.nextInt(4) == 0) { due("noMarks()", x.noMarks(), m.noMarks()); } break;
            case 29: case 30: due("far()", x.far(), m.far()); break;
            case 31: case 32: due("odd()", x.odd(), m.odd()); break;
            case 33: a = aYear(m); due("wish(" + a + ")", x.wish(a), m.wish(a)); break;
            case 34: case 35: a = aYear(m); b = about(1, DRAW.nextBoolean() ? 999 : 100);
                due("nearest(" + a + ", " + b + ")", x.nearest(a, b), m.nearest(a, b)); break;
            case 36: case 37: a = about(10, DRAW.nextInt(4) == 0 ? 9990 : 900);
                due("moved(" + a + ")", x.moved(a), m.moved(a)); break;
            case 38: a = about(1, 999999); due("rent(" + a + ")", x.rent(a), m.rent(a)); break;
            case 39: a = about(0, 9999); due("winter(" + a + ")", x.winter(a), m.winter(a)); break;
            case 40: a = about(0, 9999); due("ten(" + a + ")", x.ten(a), m.ten(a)); break;
            case 41: due("keep()", x.keep(), m.keep()); break;
            case 42: due("back()", x.back(), m.back()); break;
            case 43: if (DRAW.nextInt(6) == 0) { due("lay()", x.lay(), m.lay()); } break;
            case 44: if (DRAW.nextInt(6) == 0) { due("wipe()", x.wipe(), m.wipe()); } break;
            default: a = about(0, 8); due("count(" + a + ")", x.count(a), m.count(a));
        }
    }

    private static int aYear(Model m) {
        return DRAW.nextInt(3) == 0 ? about(0, 99) : m.told.falls.get(DRAW.nextInt(m.told.falls.size()))[0];
    }

    /** Mostly what the next LAYER shows, so that MARKS and LAYERS are alike for a while. */
    private static int nextMark(Model m) {
        List<Integer> shown = m.shown();
        return m.marks.size() < shown.size() && DRAW.nextInt(5) > 0 ? shown.get(m.marks.size()) : about(0, 9);
    }

    private static void allCounts(SnowByNumber x, Model m) {
        for (int what = -1; what <= 9; what++) {
            due("count(" + what + ")", x.count(what), m.count(what));
        }
    }

    public static void main(String[] args) {
        for (run = 1; run <= RUNS; run++) {
            SnowByNumber x = new SnowByNumber();
            Model m = new Model();
            int calls = 0;
            while (calls < CALLS - 100) {
                if (DRAW.nextInt(10) > 0) {
                    due("wipe()", x.wipe(), m.wipe());
                    calls += 3 + writeText(x, m, drawText());
                    due("fault()", x.fault(), m.fault());
                    due("lay()", x.lay(), m.lay());
                }
                for (int k = draw(20, 200); k > 0 && calls < CALLS - 20; k--) {
                    call(x, m);
                    calls += 5;
                }
                calls += 11;
                allCounts(x, m);
            }
        }
        System.out.println(wrong == 0 ? "all answers are as due" : wrong + " answers are not as due");
        if (wrong != 0) {
            System.exit(1);
        }
    }
}
