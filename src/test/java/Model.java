import java.math.BigInteger;
import java.util.ArrayList;
import java.util.Arrays;
import java.util.HashMap;
import java.util.List;
import java.util.Map;
import java.util.TreeMap;

/**
 * The document once more, slow and with numbers without bound, written apart from the class: a step is
 * undone by remembering, shares are compared as fractions, classes are found by written-out keys.
 * An answer is a text: a number, true, false, void, or the exception's name.
 */
final class Model {
    private static final String NO_SUCH = "NoSuchElementException";
    private static final String ILLEGAL = "IllegalArgumentException";
    private static final String NONE = "-1";
    private static final BigInteger MOST = BigInteger.ONE.shiftLeft(62);

    static final class Net {
        int places;
        int doors;
        boolean walked;
        final Map<List<Integer>, List<Integer>> leads = new HashMap<>();
        final Map<Integer, Boolean> marks = new HashMap<>();

        BigInteger scale() {
            return BigInteger.valueOf(doors == 2 ? 2 : doors == 3 ? 9 : 4);
        }

        boolean has(int place) {
            return 0 <= place && place < places;
        }

        boolean has(int place, int door) {
            return has(place) && 0 <= door && door < doors;
        }
    }

    static final class Walk {
        int net;
        /** The waves from time 0 on; the last one is that of now. */
        List<BigInteger[][]> waves = new ArrayList<>();

        BigInteger[][] now() {
            return waves.get(waves.size() - 1);
        }

        int time() {
            return waves.size() - 1;
        }
    }

    final List<Net> nets = new ArrayList<>();
    final List<Walk> walks = new ArrayList<>();

    String answer(String name, int[] a) {
        switch (name) {
            case "net": return net(a[0], a[1]);
            case "join": return join(a[0], a[1], a[2], a[3], a[4]);
            case "leads": return leads(a[0], a[1], a[2]);
            case "mark": return mark(a[0], a[1], a[2] != 0);
            case "alike": return alike(a[0], a[1]);
            case "walk": return walk(a[0]);
            case "count": return a[0] == 0 ? "" + nets.size() : a[0] == 1 ? "" + walks.size() : NO_SUCH;
            default: break;
        }
        if (a[0] < 0 || a[0] >= walks.size()) {
            return NO_SUCH;
        }
        Walk w = walks.get(a[0]);
        switch (name) {
            case "set": return set(w, a[1], a[2], a[3]);
            case "spread": return spread(w, a[1]);
            case "step": return step(w, a[1]);
            case "back": return back(w, a[1]);
            case "at": return nets.get(w.net).has(a[1], a[2]) ? w.now()[a[1]][a[2]].toString() : NO_SUCH;
            case "share": return share(w, a[1]);
            case "of": return of(w, a[1]);
            case "arrives": return arrives(w, a[1], a[2]);
            case "returns": return returns(w, a[1]);
            case "best": return best(w, a[1]);
            case "mean": return mean(w, a[1], a[2]);
            case "copy": return copy(w, a[1]);
            default: throw new IllegalStateException(name);
        }
    }

    private String net(int places, int doors) {
        if (nets.size() == 6 || places < 1 || places > 12 || doors < 2 || doors > 4) {
            return NONE;
        }
        Net net = new Net();
        net.places = places;
        net.doors = doors;
        for (int p = 0; p < places; p++) {
            net.marks.put(p, false);
            for (int d = 0; d < doors; d++) {
                net.leads.put(List.of(p, d), List.of(p, d));
            }
        }
        nets.add(net);
        return "" + (nets.size() - 1);
    }

    private Net netAt(int number) {
        return number < 0 || number >= nets.size() ? null : nets.get(number);
    }

    private String join(int number, int place, int door, int other, int otherDoor) {
        Net net = netAt(number);
        if (net == null || !net.has(place, door) || !net.has(other, otherDoor)) {
            return NO_SUCH;
        }
        if (net.walked) {
            return "false";
        }
        List<Integer> one = List.of(place, door);
        List<Integer> two = List.of(other, otherDoor);
        for (List<Integer> end : List.of(one, two)) {
            List<Integer> ahead = net.leads.get(end);
            net.leads.put(ahead, ahead);
            net.leads.put(end, end);
        }
        net.leads.put(one, two);
        net.leads.put(two, one);
        return "true";
    }

    private String leads(int number, int place, int door) {
        Net net = netAt(number);
        if (net == null || !net.has(place, door)) {
            return NO_SUCH;
        }
        List<Integer> to = net.leads.get(List.of(place, door));
        return "" + (4 * to.get(0) + to.get(1));
    }

    private String mark(int number, int place, boolean is) {
        Net net = netAt(number);
        if (net == null || !net.has(place)) {
            return NO_SUCH;
        }
        if (net.walked) {
            return "false";
        }
        net.marks.put(place, is);
        return "true";
    }

    private String alike(int number, int place) {
        Net net = netAt(number);
        if (net == null || place != -1 && !net.has(place)) {
            return NO_SUCH;
        }
        String[] keys = new String[net.places];
        for (int p = 0; p < net.places; p++) {
            keys[p] = "" + net.marks.get(p);
        }
        // More rounds than there are places part no more; a key has the whole story in it.
        for (int round = 0; round < 13; round++) {
            int[] classes = byFirst(keys);
            String[] next = new String[net.places];
            for (int p = 0; p < net.places; p++) {
                Map<Integer, Integer> counts = new TreeMap<>();
                for (int d = 0; d < net.doors; d++) {
                    counts.merge(classes[net.leads.get(List.of(p, d)).get(0)], 1, Integer::sum);
                }
                next[p] = classes[p] + ":" + counts;
            }
            keys = next;
        }
        int[] classes = byFirst(keys);
        return "" + (place == -1 ? Arrays.stream(classes).max().getAsInt() + 1 : classes[place]);
    }

    private static int[] byFirst(String[] keys) {
        List<String> seen = new ArrayList<>();
        int[] classes = new int[keys.length];
        for (int p = 0; p < keys.length; p++) {
            if (!seen.contains(keys[p])) {
                seen.add(keys[p]);
            }
            classes[p] = seen.indexOf(keys[p]);
        }
        return classes;
    }

    private String walk(int number) {
        Net net = netAt(number);
        if (net == null) {
            return NO_SUCH;
        }
        if (walks.size() == 12) {
            return NONE;
        }
        net.walked = true;
        Walk w = new Walk();
        w.net = number;
        w.waves.add(filled(net, BigInteger.ZERO));
        walks.add(w);
        return "" + (walks.size() - 1);
    }

    private static BigInteger[][] filled(Net net, BigInteger v) {
        BigInteger[][] wave = new BigInteger[net.places][net.doors];
        for (BigInteger[] row : wave) {
            Arrays.fill(row, v);
        }
        return wave;
    }

    private String set(Walk w, int place, int door, int v) {
        if (!nets.get(w.net).has(place, door)) {
            return NO_SUCH;
        }
        if (Math.abs((long) v) > 100) {
            return ILLEGAL;
        }
        BigInteger[][] wave = new BigInteger[w.now().length][];
        for (int p = 0; p < wave.length; p++) {
            wave[p] = w.now()[p].clone();
        }
        wave[place][door] = BigInteger.valueOf(v);
        for (BigInteger[] row : wave) {
            for (BigInteger x : row) {
                if (x.abs().compareTo(BigInteger.valueOf(100)) > 0) {
                    return "false";
                }
            }
        }
        w.waves = new ArrayList<>(List.of(new BigInteger[][][] {wave}));
        return "true";
    }

    private String spread(Walk w, int v) {
        if (Math.abs((long) v) > 100) {
            return ILLEGAL;
        }
        w.waves = new ArrayList<>();
        w.waves.add(filled(nets.get(w.net), BigInteger.valueOf(v)));
        return "void";
    }

    private static BigInteger squares(BigInteger[] row) {
        return Arrays.stream(row).map(x -> x.multiply(x)).reduce(BigInteger.ZERO, BigInteger::add);
    }

    private static BigInteger weight(BigInteger[][] wave) {
        return Arrays.stream(wave).map(Model::squares).reduce(BigInteger.ZERO, BigInteger::add);
    }

    private static BigInteger[][] stepped(Net net, BigInteger[][] wave) {
        BigInteger[][] turned = new BigInteger[net.places][net.doors];
        for (int p = 0; p < net.places; p++) {
            for (int d = 0; d < net.doors; d++) {
                BigInteger sum = BigInteger.ZERO;
                for (int e = 0; e < net.doors; e++) {
                    sum = sum.add(wave[p][e].multiply(BigInteger.valueOf(table(net.doors, d, e))));
                }
                turned[p][d] = net.marks.get(p) ? sum.negate() : sum;
            }
        }
        BigInteger[][] gone = new BigInteger[net.places][net.doors];
        for (int p = 0; p < net.places; p++) {
            for (int d = 0; d < net.doors; d++) {
                List<Integer> to = net.leads.get(List.of(p, d));
                gone[p][d] = turned[to.get(0)][to.get(1)];
            }
        }
        return gone;
    }

    private static int table(int doors, int row, int column) {
        if (doors == 2) {
            return row == 1 && column == 1 ? -1 : 1;
        }
        if (doors == 3) {
            return row == column ? -1 : 2;
        }
        return row == column ? -1 : 1;
    }

    /** The waves of now and behind 1 to n steps, or as many as there are as far as the walk goes on. */
    private List<BigInteger[][]> ahead(Walk w, int n) {
        Net net = nets.get(w.net);
        List<BigInteger[][]> all = new ArrayList<>();
        all.add(w.now());
        for (int i = 1; i <= n && w.time() + i <= 60; i++) {
            BigInteger[][] next = stepped(net, all.get(i - 1));
            if (weight(next).compareTo(MOST) > 0) {
                break;
            }
            all.add(next);
        }
        return all;
    }

    private static boolean outside(int n) {
        return n < 0 || n > 60;
    }

    private String step(Walk w, int n) {
        if (outside(n)) {
            return ILLEGAL;
        }
        List<BigInteger[][]> all = ahead(w, n);
        if (weight(w.now()).signum() == 0 || all.size() <= n) {
            return NONE;
        }
        w.waves.addAll(all.subList(1, all.size()));
        return "" + w.time();
    }

    private String back(Walk w, int n) {
        if (outside(n)) {
            return ILLEGAL;
        }
        if (w.time() < n) {
            return NONE;
        }
        w.waves = new ArrayList<>(w.waves.subList(0, w.waves.size() - n));
        return "" + w.time();
    }

    private String share(Walk w, int place) {
        if (place == -1) {
            return weight(w.now()).toString();
        }
        return nets.get(w.net).has(place) ? squares(w.now()[place]).toString() : NO_SUCH;
    }

    private String of(Walk w, int what) {
        switch (what) {
            case 0: return "" + w.net;
            case 1: return "" + w.time();
            case 2: return nets.get(w.net).scale().toString();
            default: return NO_SUCH;
        }
    }

    private String arrives(Walk w, int place, int most) {
        if (!nets.get(w.net).has(place)) {
            return NO_SUCH;
        }
        if (outside(most)) {
            return ILLEGAL;
        }
        List<BigInteger[][]> all = ahead(w, most);
        for (int i = 0; i < all.size(); i++) {
            boolean only = squares(all.get(i)[place]).signum() > 0;
            for (int p = 0; p < all.get(i).length; p++) {
                only &= p == place || squares(all.get(i)[p]).signum() == 0;
            }
            if (only) {
                return "" + i;
            }
        }
        return NONE;
    }

    private String returns(Walk w, int most) {
        if (outside(most)) {
            return ILLEGAL;
        }
        if (weight(w.now()).signum() == 0) {
            return NONE;
        }
        List<BigInteger[][]> all = ahead(w, most);
        for (int i = 1; i < all.size(); i++) {
            if (isMultiple(all.get(i), w.now())) {
                return "" + i;
            }
        }
        return NONE;
    }

    /** A whole multiple: the factor is found at one number and tried at all. */
    private static boolean isMultiple(BigInteger[][] wave, BigInteger[][] of) {
        BigInteger factor = null;
        for (int p = 0; p < of.length; p++) {
            for (int d = 0; d < of[p].length; d++) {
                if (of[p][d].signum() != 0 && factor == null) {
                    factor = wave[p][d].divide(of[p][d]);
                }
            }
        }
        for (int p = 0; p < of.length; p++) {
            for (int d = 0; d < of[p].length; d++) {
                if (!of[p][d].multiply(factor).equals(wave[p][d])) {
                    return false;
                }
            }
        }
        return true;
    }

    private String best(Walk w, int most) {
        if (outside(most)) {
            return ILLEGAL;
        }
        if (weight(w.now()).signum() == 0) {
            return NONE;
        }
        List<BigInteger[][]> all = ahead(w, most);
        int best = 0;
        for (int i = 1; i < all.size(); i++) {
            BigInteger here = marked(w, all.get(i)).multiply(weight(all.get(best)));
            BigInteger there = marked(w, all.get(best)).multiply(weight(all.get(i)));
            if (here.compareTo(there) > 0) {
                best = i;
            }
        }
        return "" + best;
    }

    private BigInteger marked(Walk w, BigInteger[][] wave) {
        BigInteger sum = BigInteger.ZERO;
        for (int p = 0; p < wave.length; p++) {
            sum = nets.get(w.net).marks.get(p) ? sum.add(squares(wave[p])) : sum;
        }
        return sum;
    }

    private String mean(Walk w, int place, int k) {
        Net net = nets.get(w.net);
        if (!net.has(place)) {
            return NO_SUCH;
        }
        if (outside(k)) {
            return ILLEGAL;
        }
        List<BigInteger[][]> all = ahead(w, k);
        if (all.size() <= k) {
            return NONE;
        }
        BigInteger sum = BigInteger.ZERO;
        for (int i = 0; i <= k; i++) {
            sum = sum.add(squares(all.get(i)[place]).multiply(net.scale().pow(k - i)));
        }
        return sum.compareTo(MOST) > 0 ? NONE : sum.toString();
    }

    private String copy(Walk w, int from) {
        if (from < 0 || from >= walks.size()) {
            return NO_SUCH;
        }
        if (walks.get(from).net != w.net) {
            return ILLEGAL;
        }
        w.waves = new ArrayList<>(walks.get(from).waves);
        return "void";
    }
}
