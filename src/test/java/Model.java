import java.math.BigInteger;
import java.util.ArrayList;
import java.util.Arrays;
import java.util.HashSet;
import java.util.List;
import java.util.NoSuchElementException;
import java.util.Set;
import java.util.regex.Matcher;
import java.util.regex.Pattern;

/**
 * A second office, written from the document alone and in another way than KitePermits: states are
 * copied whole, strings are sets of points, and texts are cut by patterns. ModelTest compares both.
 */
final class Model {
    static final int[][] STEPS = {{0, 1}, {1, 1}, {1, 0}, {1, -1}, {0, -1}, {-1, -1}, {-1, 0}, {-1, 1}};

    static final class Kite {
        int x, y, length, colour, knots, purse, state, launched, tangles;

        Kite copy() {
            Kite k = new Kite();
            k.x = x; k.y = y; k.length = length; k.colour = colour; k.knots = knots; k.purse = purse;
            k.state = state; k.launched = launched; k.tangles = tangles;
            return k;
        }
    }

    static final class State {
        int width, height, fee, fine, hour, launches;
        long paid, brought;
        List<int[][]> zones = new ArrayList<>();
        List<Integer> quotas = new ArrayList<>();
        List<Kite> kites = new ArrayList<>();
        List<int[]> permits = new ArrayList<>();

        State copy() {
            State s = new State();
            s.width = width; s.height = height; s.fee = fee; s.fine = fine; s.hour = hour; s.launches = launches;
            s.paid = paid; s.brought = brought;
            s.zones = new ArrayList<>(zones);
            s.quotas = new ArrayList<>(quotas);
            for (Kite k : kites) s.kites.add(k.copy());
            for (int[] p : permits) s.permits.add(p.clone());
            return s;
        }
    }

    static final class Fault extends RuntimeException {
        private static final long serialVersionUID = 1L;
        final int code, position;
        Fault(int code, int position) { this.code = code; this.position = position; }
    }

    State s;
    final List<State> past = new ArrayList<>();
    final State[] slots = new State[2];
    String buffer = "";
    String out = "";
    int code = 0, position = -1;

    Model() {
        s = parseSetup("field 40 30 2 10; zone 2 3 0 5; zone 6 4; colour 2; colour 1; kite 5 10 10 0 0 50; "
                + "kite 15 8 10 0 1 40; kite 34 10 15 1 1 30; kite 22 10 20 0 0 0;");
    }

    // ---- texts

    static final Pattern TOKEN = Pattern.compile("[a-z]+|[0-9]+|[^ ]", Pattern.DOTALL);

    static final class Tokens {
        final List<String> texts = new ArrayList<>();
        final List<Integer> places = new ArrayList<>();
        int at = 0;

        Tokens(String text) {
            Matcher m = TOKEN.matcher(text);
            while (m.find()) { texts.add(m.group()); places.add(m.start()); }
            texts.add("<end>"); places.add(text.length());
        }
        String now() { return texts.get(at); }
        int place() { return places.get(at); }
        boolean is(String t) { return now().equals(t); }
        boolean end() { return is("<end>"); }
        boolean number() { return now().matches("[0-9]+"); }
        void take(String t) { if (!is(t)) throw new Fault(1, place()); at++; }
        int number(int low, int high) {
            if (!number()) throw new Fault(1, place());
            BigInteger v = new BigInteger(now());
            if (v.compareTo(BigInteger.valueOf(low)) < 0 || v.compareTo(BigInteger.valueOf(high)) > 0) throw new Fault(2, place());
            at++;
            return v.intValue();
        }
    }

    static State parseSetup(String text) {
        Tokens t = new Tokens(text);
        State n = new State();
        t.take("field");
        n.width = t.number(10, 100); n.height = t.number(10, 100); n.fee = t.number(0, 20); n.fine = t.number(0, 50);
        t.take(";");
        do {
            if (t.is("zone") && n.zones.size() == 4) throw new Fault(3, t.place());
            t.take("zone");
            List<int[]> winds = new ArrayList<>();
            do {
                int here = t.place();
                int d = t.number(0, 7);
                if (winds.size() == 6) throw new Fault(3, here);
                winds.add(new int[] {d, t.number(0, 9)});
            } while (t.number());
            t.take(";");
            n.zones.add(winds.toArray(new int[0][]));
        } while (t.is("zone"));
        do {
            if (t.is("colour") && n.quotas.size() == 6) throw new Fault(3, t.place());
            t.take("colour");
            n.quotas.add(t.number(0, 9));
            t.take(";");
        } while (t.is("colour"));
        while (!t.end()) {
            if (t.is("kite") && n.kites.size() == 16) throw new Fault(3, t.place());
            t.take("kite");
            Kite k = new Kite();
            k.x = t.number(0, n.width - 1); k.y = t.number(0, n.height - 1); k.length = t.number(1, 60);
            k.colour = t.number(0, n.quotas.size() - 1); k.knots = t.number(0, 9); k.purse = t.number(0, 999);
            t.take(";");
            n.kites.add(k);
            n.brought += k.purse;
        }
        return n;
    }

    static final List<String> WORDS = Arrays.asList("launch", "land", "hours", "permit", "cancel", "tie", "repair", "pay");

    static List<int[]> parseScript(String text) {
        Tokens t = new Tokens(text);
        List<int[]> commands = new ArrayList<>();
        while (!t.end()) {
            int word = WORDS.indexOf(t.now());
            if (word < 0) throw new Fault(1, t.place());
            if (commands.size() == 20) throw new Fault(3, t.place());
            t.at++;
            int[] c = {word, 0, 0, 0};
            c[1] = word == 2 ? t.number(1, 48) : t.number(0, 15);
            if (word == 3) { c[2] = t.number(0, 999999); c[3] = t.number(1, 24); }
            if (word == 5) c[2] = t.number(0, 9);
            if (word == 7) c[2] = t.number(1, 999);
            t.take(";");
            commands.add(c);
        }
        return commands;
    }

    // ---- rules

    int zone(Kite k) { return k.x * s.zones.size() / s.width; }

    int[] wind(int zone, int hour) { int[][] w = s.zones.get(zone); return w[hour % w.length]; }

    int reach(Kite k, int knots, int hour) {
        int lift = wind(zone(k), hour)[1] - knots;
        return lift < 1 ? 0 : k.length * (lift < 5 ? lift : 5) / 5;
    }

    int[] end(Kite k, int knots, int hour) {
        int[] step = STEPS[wind(zone(k), hour)[0]];
        int x = k.x, y = k.y;
        for (int i = reach(k, knots, hour); i > 0; i--) { x += step[0]; y += step[1]; }
        return new int[] {x, y};
    }

    boolean flies(Kite k, int knots, int hour) {
        int[] e = end(k, knots, hour);
        return reach(k, knots, hour) >= 1 && e[0] >= 0 && e[1] >= 0 && e[0] < s.width && e[1] < s.height;
    }

    /** All points with halves as coordinates, doubled; strings in eight directions meet in no others. */
    Set<Integer> halfPoints(Kite k, int hour) {
        Set<Integer> points = new HashSet<>();
        int[] step = STEPS[wind(zone(k), hour)[0]];
        for (int i = 0; i <= 2 * reach(k, k.knots, hour); i++) {
            points.add((2 * k.x + i * step[0]) * 10007 + 2 * k.y + i * step[1]);
        }
        return points;
    }

    boolean cross(int a, int b, int hour) {
        Set<Integer> points = halfPoints(s.kites.get(a), hour);
        points.retainAll(halfPoints(s.kites.get(b), hour));
        return !points.isEmpty();
    }

    static boolean covers(int[] p, int hour) { return hour >= p[1] && hour < p[1] + p[2]; }

    boolean permitted(int kite, int hour) {
        return s.permits.stream().anyMatch(p -> p[0] == kite && covers(p, hour));
    }

    int used(int colour, int hour) {
        return (int) s.permits.stream().filter(p -> s.kites.get(p[0]).colour == colour && covers(p, hour)).count();
    }

    int refusal(int kite, int start, int duration) {
        Kite k = s.kites.get(kite);
        int best = k.purse < s.fee * duration ? 7 : 99;
        if (start < s.hour) best = 1;
        if (s.permits.size() >= 30) best = Math.min(best, 2);
        for (int h = start; h < start + duration; h++) {
            if (permitted(kite, h)) best = Math.min(best, 3);
            if (used(k.colour, h) >= s.quotas.get(k.colour)) best = Math.min(best, 4);
            if (!flies(k, k.knots, h)) best = Math.min(best, 5);
            for (int o = 0; o < s.kites.size(); o++) {
                if (o != kite && permitted(o, h) && best > 6 && cross(kite, o, h)) best = 6;
            }
        }
        return best == 99 ? 0 : best;
    }

    int guilty(int a, int b) {
        boolean pa = permitted(a, s.hour), pb = permitted(b, s.hour);
        if (pa && !pb) return b;
        if (pb && !pa) return a;
        return s.kites.get(a).launched > s.kites.get(b).launched ? a : b;
    }

    int pass(int count) {
        int verdicts = 0;
        while (count-- > 0) {
            s.hour++;
            s.permits.removeIf(p -> p[1] + p[2] - 1 < s.hour);
            for (Kite k : s.kites) if (k.state == 1 && !flies(k, k.knots, s.hour)) k.state = 0;
            List<int[]> pairs = new ArrayList<>();
            for (int a = 0; a < s.kites.size(); a++) {
                for (int b = a + 1; b < s.kites.size(); b++) {
                    if (s.kites.get(a).state == 1 && s.kites.get(b).state == 1 && cross(a, b, s.hour)) pairs.add(new int[] {a, b});
                }
            }
            for (int[] p : pairs) {
                int g = guilty(p[0], p[1]);
                Kite payer = s.kites.get(g), other = s.kites.get(p[0] + p[1] - g);
                for (int coin = 0; coin < s.fine && payer.purse > 0; coin++) { payer.purse--; other.purse++; }
                payer.tangles++;
                other.tangles++;
            }
            for (int[] p : pairs) { s.kites.get(p[0]).state = 2; s.kites.get(p[1]).state = 2; }
            verdicts += pairs.size();
        }
        return verdicts;
    }

    // ---- the face

    void kite(int k) { if (k < 0 || k >= s.kites.size()) throw new IndexOutOfBoundsException(); }
    void colour(int c) { if (c < 0 || c >= s.quotas.size()) throw new IndexOutOfBoundsException(); }
    void range(int v, int low, int high) { if (v < low || v > high) throw new IllegalArgumentException(); }
    void legal(boolean ok) { if (!ok) throw new IllegalStateException(); }
    void differ(int a, int b) { if (a == b) throw new IllegalArgumentException(); }
    void change() { past.add(s.copy()); if (past.size() > 8) past.remove(0); }

    long append(int... words) {
        legal(buffer.length() + 20 <= 500);
        StringBuilder b = new StringBuilder(buffer);
        for (int w : words) for (int i = 3; i >= 0; i--) b.append((char) ((w >>> 8 * i) & 0xff));
        buffer = b.toString();
        return buffer.length();
    }

    long truncate(int n) { range(n, 0, buffer.length()); buffer = buffer.substring(0, n); return n; }

    long loadSetup() {
        String text = buffer;
        buffer = "";
        code = 0; position = -1;
        State n;
        try {
            n = parseSetup(text);
        } catch (Fault f) {
            code = f.code; position = f.position;
            throw new IllegalArgumentException();
        }
        change();
        s = n;
        return s.kites.size();
    }

    long runScript() {
        String text = buffer;
        buffer = "";
        code = 0; position = -1;
        List<int[]> commands;
        try {
            commands = parseScript(text);
        } catch (Fault f) {
            code = f.code; position = f.position;
            throw new IllegalArgumentException();
        }
        List<State> kept = new ArrayList<>(past);
        State before = s.copy();
        int n = 0;
        try {
            for (int[] c : commands) {
                switch (WORDS.get(c[0])) {
                    case "launch": launch(c[1]); break;
                    case "land": land(c[1]); break;
                    case "hours": passHours(c[1]); break;
                    case "permit": permit(c[1], c[2], c[3]); break;
                    case "cancel": cancel(c[1]); break;
                    case "tie": tie(c[1], c[2]); break;
                    case "repair": repair(c[1]); break;
                    default: fund(c[1], c[2]); break;
                }
                n++;
            }
        } catch (IndexOutOfBoundsException | IllegalStateException e) {
            // the script ends here
        }
        past.clear();
        past.addAll(kept);
        past.add(before);
        if (past.size() > 8) past.remove(0);
        return n;
    }

    long addKite(int x, int y, int length, int colour, int knots, int coins) {
        colour(colour);
        range(x, 0, s.width - 1); range(y, 0, s.height - 1); range(length, 1, 60); range(knots, 0, 9); range(coins, 0, 999);
        legal(s.kites.size() < 16);
        change();
        Kite k = new Kite();
        k.x = x; k.y = y; k.length = length; k.colour = colour; k.knots = knots; k.purse = coins;
        s.brought += coins;
        s.kites.add(k);
        return s.kites.size() - 1;
    }

    long launch(int i) {
        kite(i);
        Kite k = s.kites.get(i);
        legal(k.state == 0 && flies(k, k.knots, s.hour));
        change();
        k.state = 1;
        k.launched = ++s.launches;
        return reach(k, k.knots, s.hour);
    }

    long land(int i) {
        kite(i);
        legal(s.kites.get(i).state == 1);
        change();
        s.kites.get(i).state = 0;
        return s.kites.stream().filter(k -> k.state == 1).count();
    }

    long passHours(int n) { range(n, 1, 48); change(); return pass(n); }

    long permit(int k, int start, int duration) {
        legal(whyNot(k, start, duration) == 0);
        change();
        s.permits.add(new int[] {k, start, duration});
        s.kites.get(k).purse -= s.fee * duration;
        s.paid += s.fee * duration;
        return s.permits.size();
    }

    long cancel(int k) {
        kite(k);
        change();
        int n = s.permits.size();
        s.permits.removeIf(p -> p[0] == k);
        return n - s.permits.size();
    }

    long tie(int i, int knots) {
        kite(i);
        range(knots, 0, 9);
        Kite k = s.kites.get(i);
        legal(k.state == 0);
        change();
        s.permits.removeIf(p -> p[0] == i);
        int old = k.knots;
        k.knots = knots;
        return old;
    }

    long repair(int i) {
        kite(i);
        Kite k = s.kites.get(i);
        legal(k.state == 2 && k.purse >= 2 * k.knots);
        change();
        k.state = 0;
        k.purse -= 2 * k.knots;
        s.paid += 2 * k.knots;
        return 2 * k.knots;
    }

    long fund(int i, int coins) {
        kite(i);
        range(coins, 1, 999);
        change();
        Kite k = s.kites.get(i);
        for (int c = 0; c < coins && k.purse < 99999; c++) { k.purse++; s.brought++; }
        return k.purse;
    }

    long undo() {
        if (past.isEmpty()) throw new NoSuchElementException();
        s = past.remove(past.size() - 1);
        return past.size();
    }

    long save(int slot) { range(slot, 0, 1); slots[slot] = s.copy(); return 0; }

    long restore(int slot) {
        range(slot, 0, 1);
        if (slots[slot] == null) throw new NoSuchElementException();
        change();
        s = slots[slot].copy();
        return s.hour;
    }

    void hour(int h) { range(h, 0, 999999); }
    long windAt(int z, int h, int part) {
        if (z < 0 || z >= s.zones.size()) throw new IndexOutOfBoundsException();
        hour(h);
        return wind(z, h)[part];
    }
    long quota(int c) { colour(c); return s.quotas.get(c); }
    long quotaUsed(int c, int h) { colour(c); hour(h); return used(c, h); }
    Kite at(int k) { kite(k); return s.kites.get(k); }
    long reachOf(int k, int h) { kite(k); hour(h); return reach(at(k), at(k).knots, h); }
    long endOf(int k, int h, int part) { kite(k); hour(h); return end(at(k), at(k).knots, h)[part]; }
    boolean canFly(int k, int h) { kite(k); hour(h); return flies(at(k), at(k).knots, h); }
    boolean doCross(int a, int b, int h) { kite(a); kite(b); differ(a, b); hour(h); return cross(a, b, h); }
    long permitPart(int p, int part) {
        if (p < 0 || p >= s.permits.size()) throw new IndexOutOfBoundsException();
        return s.permits.get(p)[part];
    }
    boolean hasPermit(int k, int h) { kite(k); hour(h); return permitted(k, h); }
    long whyNot(int k, int start, int d) { kite(k); hour(start); range(d, 1, 24); return refusal(k, start, d); }

    long inTheWay(int k, int start, int d) {
        kite(k); hour(start); range(d, 1, 24);
        for (int o = 0; o < s.kites.size(); o++) {
            for (int h = start; h < start + d; h++) {
                if (o != k && permitted(o, h) && cross(k, o, h)) return o;
            }
        }
        return -1;
    }

    long earliest(int k, int d) {
        kite(k); range(d, 1, 24);
        for (int i = 0; i <= 60; i++) if (refusal(k, s.hour + i, d) == 0) return s.hour + i;
        return -1;
    }

    long bestKnots(int k, int h) {
        kite(k); hour(h);
        int best = -1;
        for (int n = 9; n >= 0; n--) {
            if (flies(at(k), n, h) && (best < 0 || reach(at(k), n, h) >= reach(at(k), best, h))) best = n;
        }
        return best;
    }

    long guiltyKite(int a, int b) {
        kite(a); kite(b); differ(a, b);
        legal(at(a).state == 1 && at(b).state == 1);
        return guilty(a, b);
    }

    long verdictsIn(int hours) {
        range(hours, 0, 100);
        State kept = s;
        s = s.copy();
        int n = pass(hours);
        s = kept;
        return n;
    }

    long coinError() { return s.brought - s.paid - s.kites.stream().mapToLong(k -> k.purse).sum(); }

    long permittedCrossings() {
        long n = 0;
        for (int a = 0; a < s.kites.size(); a++) {
            for (int b = a + 1; b < s.kites.size(); b++) {
                Set<Integer> hours = new HashSet<>();
                for (int[] p : s.permits) for (int h = p[1]; h < p[1] + p[2]; h++) hours.add(h);
                for (int h : hours) if (h >= s.hour && permitted(a, h) && permitted(b, h) && cross(a, b, h)) n++;
            }
        }
        return n;
    }

    double meanReach() {
        int n = 0, sum = 0;
        for (Kite k : s.kites) if (k.state == 1) { n++; sum += reach(k, k.knots, s.hour); }
        return n == 0 ? 0.0 : (double) sum / (double) n;
    }

    float tangledShare() {
        long n = s.kites.stream().filter(k -> k.state == 2).count();
        return s.kites.isEmpty() ? 0.0f : (float) n / (float) s.kites.size();
    }

    long writePermits() {
        List<String> parts = new ArrayList<>();
        for (int[] p : s.permits) parts.add(p[0] + ":" + p[1] + "+" + p[2]);
        out = String.join(" ", parts);
        return out.length();
    }

    long outputByte(int i) { return i < 0 || i >= out.length() ? -1 : out.charAt(i); }
}
