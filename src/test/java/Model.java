import java.util.ArrayList;
import java.util.HashMap;
import java.util.List;
import java.util.Map;

/**
 * The document told once more in the slowest way: minute by minute, every order, every set.
 * It shares no code and, where there is a search, no way of searching with TwoAlike.
 */
final class Model {
    static final int BAD = -1, NOT = -2, FULL = -3, STATE = -5, VOID = -2000000000;

    private static final class Man {
        int looks, may, drift, hat = -1;
        List<int[]> errands = new ArrayList<>();
        int[] told = new int[30];
        int[] led;

        Man() {
            java.util.Arrays.fill(told, -1);
        }
    }

    private static final class Picture {
        List<Integer> hats = new ArrayList<>();
        List<int[]> told = new ArrayList<>();
        List<int[]> sights;
    }

    private final List<Man> men = new ArrayList<>();
    private int ease, month;
    private String tape = "", text;
    private List<int[]> sights = new ArrayList<>();
    private Picture picture;
    private final List<int[]> undoable = new ArrayList<>(), redoable = new ArrayList<>();
    private final List<Integer> bodies = new ArrayList<>();
    private final Ways ways = new Ways();
    private final Object[] shelves = new Object[6];

    // ---- people

    private boolean man(int p) {
        return p >= 0 && p < men.size();
    }

    private boolean two(int pq) {
        return pq >= 0 && man(pq / 10) && man(pq % 10) && pq / 10 != pq % 10;
    }

    int person(int looks, int may) {
        if (looks < 0 || looks > 63 || may < 0 || may > 63) return BAD;
        if (men.size() == 7) return FULL;
        Man m = new Man();
        m.looks = looks;
        m.may = may;
        men.add(m);
        return men.size() - 1;
    }

    int people(int shelf, int i, int n) {
        if (shelf < 0 || shelf > 5 || n < 1 || n > 7) return BAD;
        Object o = shelves[shelf];
        if (o != null && !(o instanceof byte[])) return -12;
        int came = 0;
        try {
            byte[] row = (byte[]) o;
            for (int k = 0; k < n; k++) {
                int looks = row[i + 2 * k];
                int may = row[i + 2 * k + 1];
                if (person(looks, may) < 0) return came;
                came++;
            }
        } catch (NullPointerException | ArrayIndexOutOfBoundsException e) {
            return came;
        }
        return came;
    }

    int errand(int p, int sm) {
        if (!man(p) || sm < 0 || sm / 10 > 4 || sm % 10 < 1 || sm % 10 > 6) return BAD;
        if (men.get(p).errands.size() == 4) return FULL;
        men.get(p).errands.add(new int[] {sm / 10, sm % 10});
        return men.get(p).errands.size();
    }

    int clear(int p) {
        if (!man(p)) return BAD;
        int had = men.get(p).errands.size();
        men.get(p).errands.clear();
        return had;
    }

    private boolean may(Man m, int part) {
        return part == -1 || (part >= 0 && part < 6 && (m.may & (1 << part)) != 0);
    }

    int hat(int p, int part) {
        if (!man(p) || !may(men.get(p), part)) return VOID;
        int was = men.get(p).hat;
        men.get(p).hat = part;
        return was;
    }

    private int read(int number, int what) {
        switch (what) {
            case 0: return men.get(number).looks;
            case 1: return men.get(number).may;
            case 2: return men.get(number).drift;
            case 3: return ease;
            default: return month;
        }
    }

    private void write(int number, int what, int v) {
        switch (what) {
            case 0: men.get(number).looks = v; break;
            case 1: men.get(number).may = v; break;
            case 2: men.get(number).drift = v; break;
            case 3: ease = v; break;
            default: month = v;
        }
    }

    int mend(int number, int what, int v) {
        if (what < 0 || what > 4 || v < 0) return BAD;
        if (what < 3 ? !man(number) || v > 63 : number != 0 || v > (what == 3 ? 6 : 11)) return BAD;
        int was = read(number, what);
        if (was == v) return was;
        write(number, what, v);
        undoable.add(new int[] {number, what, was, v});
        if (undoable.size() > 40) undoable.remove(0);
        redoable.clear();
        return was;
    }

    private static int seen(int looks, int hat) {
        return hat < 0 ? looks : looks ^ (1 << hat);
    }

    private int seen(Man m) {
        return seen(m.looks, m.hat);
    }

    int of(int number, int what) {
        if (what >= 0 && what <= 6) {
            if (!man(number)) return VOID;
            Man m = men.get(number);
            int minutes = 0;
            for (int[] e : m.errands) minutes += e[1];
            return new int[] {m.looks, m.may, m.drift, m.hat, seen(m), m.errands.size(), minutes}[what];
        }
        if (what == 10 || what == 11) return number != 0 ? VOID : what == 10 ? ease : month;
        if (what < 20 || what > 22 || number < 0 || number >= sights.size()) return VOID;
        return sights.get(number)[what - 20];
    }

    int feed(int letter) {
        if (letter < 0 || letter > 255) return BAD;
        if (tape.length() == 120) return FULL;
        tape += (char) letter;
        return tape.length();
    }

    int law() {
        int fault = Text.fault(tape);
        if (fault < 0) text = tape;
        tape = "";
        return fault < 0 ? 1 : -100 - fault;
    }

    private final Map<String, Boolean> asked = new HashMap<>();

    private boolean like(int seenP, int hatP, int seenQ, int hatQ, int m) {
        int d = Integer.bitCount(seenP ^ seenQ);
        if (text == null) return d <= ease;
        int h = (hatP >= 0 ? 1 : 0) + (hatQ >= 0 ? 1 : 0);
        int a = Math.min(seenP, seenQ), b = Math.max(seenP, seenQ);
        String key = a + " " + b + " " + h + " " + m + " " + ease + text;
        Boolean known = asked.get(key);
        if (known == null) {
            known = Text.worth(text, new int[] {d, a, b, h, m, ease}) != 0;
            asked.put(key, known);
        }
        return known;
    }

    private boolean like(int p, int q) {
        Man a = men.get(p), b = men.get(q);
        return like(seen(a), a.hat, seen(b), b.hat, month);
    }

    int alike(int pq) {
        if (!two(pq)) return BAD;
        return like(pq / 10, pq % 10) ? 1 : 0;
    }

    // ---- days

    /** Where each is by minute; a row of its own for who is barred: null. Who is left out of the order stays at home. */
    private int[][] lay(List<Integer> order) {
        int[][] out = new int[men.size()][];
        for (int p = 0; p < men.size(); p++) {
            out[p] = new int[30];
            java.util.Arrays.fill(out[p], -1);
        }
        for (int k = 0; k < order.size(); k++) {
            int p = order.get(k);
            int from = 0;
            int[] mine = out[p].clone();
            for (int[] e : men.get(p).errands) {
                int start = from;
                while (start + e[1] <= 30 && !freeFor(p, e, start, order.subList(0, k), out)) start++;
                if (start + e[1] > 30) {
                    mine = null;
                    break;
                }
                for (int m = start; m < start + e[1]; m++) mine[m] = e[0];
                from = start + e[1];
            }
            out[p] = mine;
        }
        return out;
    }

    private boolean freeFor(int p, int[] errand, int start, List<Integer> ahead, int[][] out) {
        for (int m = start; m < start + errand[1]; m++) {
            for (int q : ahead) {
                if (out[q] != null && out[q][m] == errand[0] && like(p, q)) return false;
            }
        }
        return true;
    }

    private static int waitedIn(int[] mine) {
        if (mine == null) return 0;
        int homes = 0, waits = 0;
        for (int m = 0; m < 30; m++) {
            if (mine[m] < 0) homes++;
            else waits = homes;
        }
        return waits;
    }

    private static int sum(int[][] out) {
        int sum = 0;
        for (int[] mine : out) sum += mine == null ? 30 : waitedIn(mine);
        return sum;
    }

    private List<Integer> numbers() {
        List<Integer> order = new ArrayList<>();
        for (int p = 0; p < men.size(); p++) order.add(p);
        return order;
    }

    int plan() {
        int[][] out = lay(numbers());
        for (int p = 0; p < men.size(); p++) {
            int first = -2, last = -2;
            for (int m = 0; m < 30 && out[p] != null; m++) {
                if (out[p][m] < 0) continue;
                if (first < 0) first = m;
                last = m;
            }
            men.get(p).led = new int[] {first, last};
        }
        return sum(out);
    }

    int where(int p, int minute) {
        if (!man(p) || minute < 0 || minute > 29) return VOID;
        int[] mine = lay(numbers())[p];
        return mine == null ? -1 : mine[minute];
    }

    int waited(int p, int what) {
        if (!man(p) || what < 0 || what > 1) return BAD;
        int[] mine = lay(numbers())[p];
        return what == 0 ? waitedIn(mine) : mine == null ? 1 : 0;
    }

    private List<Integer> bestOrder;
    private int bestSum;

    int best(int k) {
        if (k < -1 || k >= men.size()) return BAD;
        bestOrder = null;
        everyOrder(new ArrayList<>());
        return k < 0 ? bestSum : bestOrder.get(k);
    }

    private void everyOrder(List<Integer> order) {
        if (order.size() == men.size()) {
            int sum = sum(lay(order));
            if (bestOrder == null || sum < bestSum) {
                bestSum = sum;
                bestOrder = new ArrayList<>(order);
            }
            return;
        }
        for (int p = 0; p < men.size(); p++) {
            if (order.contains(p)) continue;
            order.add(p);
            everyOrder(order);
            order.remove(order.size() - 1);
        }
    }

    int bars(int p) {
        if (!man(p)) return BAD;
        int[] mine = lay(numbers())[p];
        for (int q = 0; q < p; q++) {
            List<Integer> order = numbers();
            order.remove(q);
            int[] then = lay(order)[p];
            if (waitedIn(then) < waitedIn(mine) || (mine == null && then != null)) return q;
        }
        return NOT;
    }

    int led(int p, int what) {
        if (!man(p) || what < 0 || what > 1) return BAD;
        return men.get(p).led == null ? STATE : men.get(p).led[what];
    }

    // ---- hats, kinds

    private int[] bestHats;
    private int fewest;

    int hats(int p) {
        if (p != -1 && !man(p)) return VOID;
        bestHats = null;
        everyHat(new int[men.size()], 0, 0);
        if (bestHats == null) return NOT;
        return p < 0 ? fewest : bestHats[p];
    }

    private void everyHat(int[] hats, int p, int worn) {
        if (p == hats.length) {
            if (bestHats == null || worn < fewest) {
                fewest = worn;
                bestHats = hats.clone();
            }
            return;
        }
        for (int hat = -1; hat < 6; hat++) {
            if (!may(men.get(p), hat)) continue;
            boolean clash = false;
            for (int q = 0; q < p; q++) {
                int a = seen(men.get(p).looks, hat), b = seen(men.get(q).looks, hats[q]);
                clash |= like(a, hat, b, hats[q], month);
            }
            hats[p] = hat;
            if (!clash) everyHat(hats, p + 1, hat < 0 ? worn : worn + 1);
        }
    }

    int needs() {
        int pairs = 0;
        for (int p = 0; p < men.size(); p++) {
            for (int q = 0; q < p; q++) pairs += like(p, q) ? 1 : 0;
        }
        return pairs;
    }

    int kinds(int what) {
        if (what != 0 && what != 1) return BAD;
        int best = 0;
        for (int set = (1 << men.size()) - 1; set > 0; set--) {
            boolean all = true;
            for (int p = 0; p < men.size(); p++) {
                for (int q = 0; q < p; q++) {
                    if ((set & 1 << p) != 0 && (set & 1 << q) != 0) all &= like(p, q);
                }
            }
            if (all && Integer.bitCount(set) >= Integer.bitCount(best)) best = set;
        }
        return what == 0 ? Integer.bitCount(best) : best;
    }

    int pass(int pq) {
        if (!two(pq)) return VOID;
        Man p = men.get(pq / 10), q = men.get(pq % 10);
        for (int hat = -1; hat < 6; hat++) {
            if (may(p, hat) && like(seen(p.looks, hat), hat, seen(q), q.hat, month)) return hat;
        }
        return NOT;
    }

    // ---- told days, sights

    int go(int p, int ft, int street) {
        if (!man(p) || ft < 0 || ft % 100 > 29 || ft / 100 > ft % 100 || street < -1 || street > 4) return BAD;
        for (int m = ft / 100; m <= ft % 100; m++) men.get(p).told[m] = street;
        return ft % 100 - ft / 100 + 1;
    }

    int judge(int what) {
        if (what < 0 || what > 2) return BAD;
        for (int m = 0; m < 30; m++) {
            for (int p = 0; p < men.size(); p++) {
                for (int q = p + 1; q < men.size(); q++) {
                    int street = men.get(p).told[m];
                    if (street >= 0 && street == men.get(q).told[m] && like(p, q)) return new int[] {m, p, q}[what];
                }
            }
        }
        return NOT;
    }

    int watch(int pq, int what) {
        if (!two(pq) || what < 0 || what > 1) return BAD;
        int[] p = men.get(pq / 10).told, q = men.get(pq % 10).told;
        int apart = 0;
        for (int m = 0; m < 30; m++) {
            for (int street = 0; street < 5 && what == 0; street++) {
                if (p[m] == street && q[m] != street) return 10 * m + street;
            }
            if (p[m] != q[m]) apart++;
        }
        return what == 0 ? NOT : apart;
    }

    int sight(int ms, int looks) {
        if (ms < 0 || ms / 10 > 29 || ms % 10 > 4 || looks < 0 || looks > 63) return BAD;
        if (sights.size() == 10) return FULL;
        sights.add(new int[] {ms / 10, ms % 10, looks});
        return sights.size() - 1;
    }

    private int least;

    int atLeast(int hats) {
        if (hats < 0 || hats > 6) return BAD;
        least = sights.size();
        everySharing(new ArrayList<>(), 0, hats);
        return least;
    }

    private void everySharing(List<List<int[]>> sets, int k, int hats) {
        if (k == sights.size()) {
            least = Math.min(least, sets.size());
            return;
        }
        int[] sight = sights.get(k);
        for (int s = 0; s < sets.size(); s++) {
            boolean fits = true;
            for (int[] other : sets.get(s)) fits &= !bar(sight, other, hats);
            if (!fits) continue;
            sets.get(s).add(sight);
            everySharing(sets, k + 1, hats);
            sets.get(s).remove(sets.get(s).size() - 1);
        }
        List<int[]> own = new ArrayList<>();
        own.add(sight);
        sets.add(own);
        everySharing(sets, k + 1, hats);
        sets.remove(sets.size() - 1);
    }

    private static boolean bar(int[] a, int[] b, int hats) {
        if (a[0] == b[0] && (a[1] != b[1] || a[2] != b[2])) return true;
        return Integer.bitCount(a[2] ^ b[2]) > hats;
    }

    int who(int sight) {
        if (sight < 0 || sight >= sights.size()) return BAD;
        int bits = 0;
        for (int p = 0; p < men.size(); p++) {
            Man m = men.get(p);
            int wanted = sights.get(sight)[2];
            boolean can = seen(m) == wanted || m.looks == wanted;
            for (int part = 0; part < 6; part++) can |= may(m, part) && seen(m.looks, part) == wanted;
            if (can) bits |= 1 << p;
        }
        return bits;
    }

    int gone(int minute, int what) {
        if (minute < 0 || minute > 29 || what < 0 || what > 1) return BAD;
        int gone = (1 << men.size()) - 1;
        for (int s = 0; s < sights.size(); s++) {
            if (sights.get(s)[0] >= minute) gone &= ~who(s);
        }
        if (what == 0) return gone;
        int lived = 0;
        for (int p = 0; p < men.size(); p++) {
            for (int q = 0; q < men.size(); q++) {
                if (p != q && (gone & 1 << p) != 0 && (gone & 1 << q) == 0 && like(p, q)) lived |= 1 << p;
            }
        }
        return lived;
    }

    // ---- months

    int months(int n) {
        if (n < 1 || n > 12) return BAD;
        int[] looks = new int[men.size()];
        int then = month;
        for (int p = 0; p < looks.length; p++) looks[p] = men.get(p).looks;
        for (int k = 0; k < n; k++) {
            then = then == 11 ? 0 : then + 1;
            for (int p = 0; p < looks.length; p++) looks[p] ^= men.get(p).drift;
        }
        int pairs = 0;
        for (int p = 0; p < looks.length; p++) {
            for (int q = 0; q < p; q++) {
                int hatP = men.get(p).hat, hatQ = men.get(q).hat;
                if (like(seen(looks[p], hatP), hatP, seen(looks[q], hatQ), hatQ, then)) pairs++;
            }
        }
        return pairs;
    }

    int turn() {
        for (Man m : men) m.looks ^= m.drift;
        month = month == 11 ? 0 : month + 1;
        return month;
    }

    int image() {
        picture = new Picture();
        for (Man m : men) {
            picture.hats.add(m.hat);
            picture.told.add(m.told.clone());
        }
        picture.sights = new ArrayList<>(sights);
        return men.size();
    }

    int back() {
        if (picture == null) return STATE;
        for (int p = 0; p < men.size(); p++) {
            boolean known = p < picture.hats.size();
            men.get(p).hat = known ? picture.hats.get(p) : -1;
            for (int m = 0; m < 30; m++) men.get(p).told[m] = known ? picture.told.get(p)[m] : -1;
        }
        sights = new ArrayList<>(picture.sights);
        return picture.hats.size();
    }

    int undo() {
        if (undoable.isEmpty()) return STATE;
        int[] change = undoable.remove(undoable.size() - 1);
        write(change[0], change[1], change[2]);
        redoable.add(change);
        return undoable.size();
    }

    int redo() {
        if (redoable.isEmpty()) return STATE;
        int[] change = redoable.remove(redoable.size() - 1);
        write(change[0], change[1], change[3]);
        undoable.add(change);
        return redoable.size();
    }

    // ---- acts, shelves

    int body(int kind) {
        if (kind < 0 || kind > 7) return BAD;
        if (bodies.size() == 50) return FULL;
        bodies.add(kind);
        return bodies.size() - 1;
    }

    int act(int body, int act, int x) {
        ways.trace.clear();
        if (body < 0 || body >= bodies.size() || act < 0 || act > 3) return 0;
        Ways.Twin twin = ways.twin(bodies.get(body), body);
        switch (act) {
            case 0: return twin.looks(x);
            case 1: return twin.walks(x);
            case 2: return twin.waits(x);
            default: return twin.tells(x);
        }
    }

    int trace(int i) {
        return i < 0 || i >= ways.trace.size() || i > 23 ? BAD : ways.trace.get(i);
    }

    int keep(int shelf, int body) {
        if (shelf < 0 || shelf > 5 || body < -1 || body >= bodies.size()) return BAD;
        shelves[shelf] = body < 0 ? null : ways.twin(bodies.get(body), body);
        return 1;
    }

    int row(int shelf, int sort, int n) {
        if (shelf < 0 || shelf > 5 || sort < 0 || sort > 4 || n > 60) return BAD;
        if (n < 0) return -14;
        switch (sort) {
            case 0: shelves[shelf] = new byte[n]; break;
            case 1: shelves[shelf] = new short[n]; break;
            case 2: shelves[shelf] = new int[n]; break;
            case 3: shelves[shelf] = new long[n]; break;
            default: shelves[shelf] = new boolean[n];
        }
        return 1;
    }

    private int refusal(int shelf, int i) {
        if (shelf < 0 || shelf > 5) return BAD;
        Object o = shelves[shelf];
        if (o == null) return -11;
        if (o instanceof Ways.Twin) return -12;
        return i < 0 || i >= java.lang.reflect.Array.getLength(o) ? -13 : 0;
    }

    int put(int shelf, int i, long v) {
        if (refusal(shelf, i) != 0) return refusal(shelf, i);
        Object o = shelves[shelf];
        if (o instanceof byte[]) ((byte[]) o)[i] = (byte) v;
        else if (o instanceof short[]) ((short[]) o)[i] = (short) v;
        else if (o instanceof int[]) ((int[]) o)[i] = (int) v;
        else if (o instanceof long[]) ((long[]) o)[i] = v;
        else ((boolean[]) o)[i] = v != 0;
        return 1;
    }

    long element(int shelf, int i) {
        if (refusal(shelf, i) != 0) return Long.MIN_VALUE;
        Object o = shelves[shelf];
        return o instanceof boolean[] ? ((boolean[]) o)[i] ? 1 : 0 : java.lang.reflect.Array.getLong(o, i);
    }

    int shift(int shelf, int i, int other, int j, int n) {
        if (shelf < 0 || shelf > 5 || other < 0 || other > 5) return BAD;
        try {
            System.arraycopy(shelves[shelf], i, shelves[other], j, n);
        } catch (NullPointerException e) {
            return -11;
        } catch (ArrayStoreException e) {
            return -12;
        } catch (IndexOutOfBoundsException e) {
            return -13;
        }
        return n;
    }

    int taken(int shelf, int k) {
        if (shelf < 0 || shelf > 5 || k < 0 || k > 7) return BAD;
        if (shelves[shelf] == null) return -11;
        return Ways.CLASSES[k].isInstance(shelves[shelf]) ? ((Ways.Twin) shelves[shelf]).kind : -12;
    }

    int count(int what) {
        int errands = 0;
        for (Man m : men) errands += m.errands.size();
        switch (what) {
            case 0: return men.size();
            case 1: return errands;
            case 2: return sights.size();
            case 3: return tape.length();
            case 4: return undoable.size();
            case 5: return bodies.size();
            case 6: return ways.trace.size();
            default: return BAD;
        }
    }
}
