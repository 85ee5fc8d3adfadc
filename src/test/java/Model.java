import java.util.ArrayList;
import java.util.Arrays;
import java.util.Collections;
import java.util.List;
import java.util.TreeSet;

/**
 * The document told a second time, with the whole of Java at hand and no thought of cost: RandomTest asks
 * it and the class the same. It shares no code with the class, so a slip in one of them shows.
 */
public final class Model {
    static final class Refusal extends RuntimeException {
        final int answer;

        Refusal(int answer) {
            super(null, null, false, false);
            this.answer = answer;
        }
    }

    /** A fault of a text. */
    static final class Stop extends RuntimeException {
        final int place;

        Stop(int place) {
            super(null, null, false, false);
            this.place = place;
        }
    }

    // ---- shops, each kind a class as the document tells them

    static class Shop implements Cloneable {
        int kind;
        int m;
        int a;
        int price;
        int sold;
        int quiet;
        List<Integer> ran;

        int raw() {
            return price;
        }

        int cost() {
            return Math.max(1, Math.min(9999, raw()));
        }

        boolean plainLeaves() {
            return true;
        }

        int asks(int x) {
            ran.add(10);
            return x + m;
        }

        int sells(int x) {
            ran.add(11);
            return asks(x) * 2;
        }

        int shuts(int x) {
            ran.add(12);
            int left = sells(x);
            int right = asks(x - a);
            return left ^ right;
        }

        Shop again() {
            try {
                return (Shop) clone();
            } catch (CloneNotSupportedException e) {
                throw new IllegalStateException(e);
            }
        }
    }

    static class Dear extends Shop {
        int raw() {
            return price + a * sold;
        }

        int asks(int x) {
            ran.add(20);
            return super.asks(x) + a;
        }
    }

    static class Slack extends Shop {
        int raw() {
            return price - a * quiet;
        }

        int sells(int x) {
            ran.add(30);
            return super.sells(x) * 3;
        }
    }

    static class Greedy extends Dear {
        int raw() {
            return price + a * sold * sold;
        }

        int sells(int x) {
            ran.add(40);
            return super.sells(x + 1);
        }
    }

    static class Stamped extends Shop {
        boolean plainLeaves() {
            return false;
        }

        int shuts(int x) {
            ran.add(50);
            return -super.shuts(x);
        }

        int asks(int x) {
            ran.add(51);
            return super.asks(x) - m;
        }
    }

    static class Lazy extends Slack {
        int raw() {
            return price - quiet;
        }

        int shuts(int x) {
            ran.add(60);
            return super.shuts(x) ^ 5;
        }
    }

    static class Fine extends Stamped {
        int raw() {
            return price + a * sold;
        }

        int asks(int x) {
            ran.add(70);
            return super.asks(x) * 2;
        }

        int sells(int x) {
            ran.add(71);
            return super.sells(x - a);
        }
    }

    static Shop ofKind(int kind) {
        Shop[] all = {new Shop(), new Dear(), new Slack(), new Greedy(), new Stamped(), new Lazy(), new Fine()};
        all[kind].kind = kind;
        return all[kind];
    }

    static final class Kid implements Cloneable {
        int nimble;
        int leaves;
        int stamps;
        int feathers;
        int cakes;
        int keeps = -1;

        Kid again() {
            try {
                return (Kid) clone();
            } catch (CloneNotSupportedException e) {
                throw new IllegalStateException(e);
            }
        }

        void get(int l, int s) {
            leaves = Math.min(9999, leaves + l);
            stamps = Math.min(9999, stamps + s);
        }
    }

    static final class World {
        List<Shop> shops = new ArrayList<>();
        List<Kid> kids = new ArrayList<>();
        int clock;
        int till;
        int ink = 5;
        int tree = 999;
        int deals;
        int seed = 1;
        List<Shop> soldNow = new ArrayList<>();

        World again() {
            World w = new World();
            for (Shop s : shops) {
                w.shops.add(s.again());
            }
            for (Kid k : kids) {
                w.kids.add(k.again());
            }
            w.clock = clock;
            w.till = till;
            w.ink = ink;
            w.tree = tree;
            w.deals = deals;
            w.seed = seed;
            return w;
        }

        /** All deeds that may be. */
        TreeSet<Integer> may(Kid k) {
            TreeSet<Integer> set = new TreeSet<>(List.of(0));
            if (tree != 0) {
                set.add(1);
            }
            if (ink >= 1 && k.leaves >= 1) {
                set.add(2);
            }
            if (k.feathers >= 1) {
                set.add(3);
            }
            for (int s = 0; s < shops.size(); s++) {
                int purse = k.stamps + (shops.get(s).plainLeaves() ? k.leaves : 0);
                if (k.keeps != s && purse >= shops.get(s).cost()) {
                    set.add(10 + s);
                }
            }
            return set;
        }

        void act(Kid k, int deed) {
            if (deed == 1) {
                int p = k.nimble < tree ? k.nimble : tree;
                tree -= p;
                k.get(p, 0);
            }
            if (deed == 2) {
                int p = ink < k.leaves ? ink : k.leaves;
                k.leaves -= p;
                k.get(0, p);
            }
            if (deed == 3) {
                k.feathers -= 1;
                k.get(10, 0);
            }
            if (deed >= 10) {
                Shop shop = shops.get(deed - 10);
                int cost = shop.cost();
                int l = 0;
                int s = 0;
                for (int i = 0; i < cost; i++) {
                    if (shop.plainLeaves() && k.leaves > 0) {
                        k.leaves--;
                        l++;
                    } else {
                        k.stamps--;
                        s++;
                    }
                }
                till += cost;
                deals++;
                shop.sold++;
                shop.quiet = 0;
                soldNow.add(shop);
                k.cakes++;
                for (Kid keeper : kids) {
                    if (keeper.keeps == deed - 10) {
                        keeper.get(l, s);
                        break;
                    }
                }
            }
        }

        int greedy(Kid k, int most) {
            int best = -1;
            for (int deed : may(k)) {
                if (deed >= 10 && shops.get(deed - 10).cost() <= most
                    && (best < 0 || shops.get(deed - 10).cost() < shops.get(best - 10).cost())) {
                    best = deed;
                }
            }
            return best >= 0 ? best : ifMay(k, 1);
        }

        int ifMay(Kid k, int deed) {
            return may(k).contains(deed) ? deed : 0;
        }

        int byRule(Kid k, int rule) {
            if (rule == 1 && k.leaves < 50) {
                return ifMay(k, 1);
            }
            if (rule == 2 && k.leaves > k.stamps) {
                return ifMay(k, 2);
            }
            return greedy(k, rule == 3 ? 10 * k.nimble : Integer.MAX_VALUE);
        }

        void minuteEnds() {
            for (Shop s : shops) {
                if (!soldNow.contains(s) && s.quiet < 999) {
                    s.quiet++;
                }
            }
            clock++;
        }

        World minutes(int rule, int n) {
            for (int i = 0; i < n; i++) {
                soldNow.clear();
                for (Kid k : kids) {
                    act(k, byRule(k, rule));
                }
                minuteEnds();
            }
            return this;
        }

        int draw(int below) {
            seed = (int) (seed * 1103515245L + 12345L);
            return ((seed >> 16) & 0xffff) % below;
        }

        int night() {
            int lost = 0;
            for (Kid k : kids) {
                int half = k.leaves - k.leaves / 2;
                k.leaves -= half;
                lost += half;
            }
            for (Shop s : shops) {
                s.sold = 0;
                s.quiet = 0;
            }
            tree = 999;
            return lost;
        }

        List<Integer> costs() {
            List<Integer> all = new ArrayList<>();
            for (Shop s : shops) {
                all.add(s.cost());
            }
            return all;
        }
    }

    private final Object[] shelves = new Object[8];
    private World now = new World();
    private World image;
    private int fault = -1;
    private List<Integer> ran = new ArrayList<>();
    private final int[] refused = new int[8];

    // ---- refusals

    private void want(boolean good, int answer) {
        if (!good) {
            refused[-answer > 10 ? -answer - 10 : -answer]++;
            throw new Refusal(answer);
        }
    }

    private static boolean in(int v, int from, int to) {
        return from <= v && v <= to;
    }

    private void wantShelf(int s) {
        want(in(s, 0, 7), -1);
    }

    private boolean isShop(int s) {
        return in(s, 0, now.shops.size() - 1);
    }

    private boolean isKid(int c) {
        return in(c, 0, now.kids.size() - 1);
    }

    private Object[] wantRow(int s, int apart) {
        want(in(s, 0, 7), apart - 1);
        want(!(shelves[s] instanceof Integer), apart - 2);
        want(shelves[s] != null, apart - 3);
        return (Object[]) shelves[s];
    }

    // ---- shelves: a row is an array {sort, long[]}, a shop its number

    public int row(int s, int sort, int n) {
        wantShelf(s);
        want(n >= 0, -4);
        want(in(sort, 0, 3), -6);
        want(n <= 160, -7);
        shelves[s] = new Object[] {sort, new long[n]};
        return 1;
    }

    public int set(int s, int i, long v) {
        Object[] row = wantRow(s, 0);
        long[] e = (long[]) row[1];
        want(in(i, 0, e.length - 1), -5);
        int drop = 64 - (8 << (Integer) row[0]);
        e[i] = v << drop >> drop;
        return 1;
    }

    public int copy(int p, int q, int i, int j, int n) {
        wantShelf(p);
        wantShelf(q);
        want(!(shelves[p] instanceof Integer) && !(shelves[q] instanceof Integer), -2);
        Object[] from = (Object[]) shelves[p];
        Object[] to = (Object[]) shelves[q];
        want(from == null || to == null || from[0].equals(to[0]), -2);
        want(from != null && to != null, -3);
        want(n >= 0, -4);
        long[] f = (long[]) from[1];
        long[] t = (long[]) to[1];
        want(i >= 0 && j >= 0 && (long) i + n <= f.length && (long) j + n <= t.length, -5);
        long[] ahead = f.clone();
        for (int k = 0; k < n; k++) {
            t[j + k] = ahead[i + k];
        }
        return 1;
    }

    public long element(int s, int i) {
        if (!in(s, 0, 7) || !(shelves[s] instanceof Object[])) {
            return 0;
        }
        long[] e = (long[]) ((Object[]) shelves[s])[1];
        return in(i, 0, e.length - 1) ? e[i] : 0;
    }

    public int show(int s, int shop) {
        wantShelf(s);
        want(shop == -1 || isShop(shop), -1);
        shelves[s] = shop == -1 ? null : (Integer) shop;
        return shop == -1 ? 0 : 1;
    }

    public int holds(int s) {
        if (!in(s, 0, 7) || shelves[s] == null) {
            return -1;
        }
        return shelves[s] instanceof Integer ? (Integer) shelves[s] : 100 + (Integer) ((Object[]) shelves[s])[0];
    }

    public int says(int s, int kind) {
        wantShelf(s);
        want(in(kind, 0, 6), -1);
        want(!(shelves[s] instanceof Object[]), -2);
        want(shelves[s] != null, -3);
        Shop shop = now.shops.get((Integer) shelves[s]);
        want(ofKind(kind).getClass().isInstance(shop), -2);
        switch (kind) {
            case 0: return shop.price;
            case 1:
            case 3: return shop.cost() - shop.price;
            case 2:
            case 5: return shop.quiet;
            default: return shop.cost();
        }
    }

    // ---- the garden

    public int shop(int kind, int a, int price) {
        want(in(kind, 0, 6), -1);
        want(in(a, 0, 9) && in(price, 1, 999), -6);
        want(now.shops.size() < 6, -7);
        return found(now, kind, a, price);
    }

    private static int found(World w, int kind, int a, int price) {
        Shop s = ofKind(kind);
        s.a = a;
        s.price = price;
        s.m = w.shops.size();
        w.shops.add(s);
        return s.m;
    }

    public int child(int nimble, int leaves) {
        want(in(nimble, 1, 99) && in(leaves, 0, 9999), -6);
        want(now.kids.size() < 6, -7);
        return born(now, nimble, leaves);
    }

    private static int born(World w, int nimble, int leaves) {
        Kid k = new Kid();
        k.nimble = nimble;
        k.leaves = leaves;
        w.kids.add(k);
        return w.kids.size() - 1;
    }

    public int shopOf(int shop, int what) {
        want(isShop(shop) && in(what, 0, 5), -5);
        Shop s = now.shops.get(shop);
        return new int[] {s.kind, s.a, s.price, s.sold, s.quiet, s.cost()}[what];
    }

    public int childOf(int child, int what) {
        want(isKid(child) && in(what, 0, 5), -5);
        Kid k = now.kids.get(child);
        return new int[] {k.nimble, k.leaves, k.stamps, k.feathers, k.cakes, k.keeps + 1}[what];
    }

    public int tell(int child, int what, int v) {
        want(isKid(child), -1);
        want(in(what, 1, 3) && in(v, 0, what == 3 ? 99 : 9999), -6);
        int was = childOf(child, what);
        Kid k = now.kids.get(child);
        switch (what) {
            case 1: k.leaves = v; break;
            case 2: k.stamps = v; break;
            default: k.feathers = v; break;
        }
        return was;
    }

    public int keeps(int child, int shop) {
        want(isKid(child) && (shop == -1 || isShop(shop)), -11);
        int was = now.kids.get(child).keeps;
        now.kids.get(child).keeps = shop;
        return was;
    }

    public int ask(int what, int v) {
        want(what == 0 && in(v, 0, 99) || what == 1 && in(v, 0, 9999), -6);
        int was = what == 0 ? now.ink : now.tree;
        if (what == 0) {
            now.ink = v;
        } else {
            now.tree = v;
        }
        return was;
    }

    // ---- texts

    private int[] letters;
    private int at;

    public int garden(int s) {
        Object[] row = wantRow(s, 0);
        long[] e = (long[]) row[1];
        letters = new int[e.length];
        for (int i = 0; i < e.length; i++) {
            letters[i] = (int) e[i];
        }
        at = 0;
        fault = -1;
        World draft = now.again();
        int items = 0;
        try {
            do {
                item(draft);
                items++;
            } while (more());
        } catch (Stop stop) {
            fault = stop.place;
        }
        want(fault == -1, -6);
        now = draft;
        return items;
    }

    private boolean more() {
        if (at == letters.length) {
            return false;
        }
        sign(';');
        return true;
    }

    private void sign(char c) {
        if (at == letters.length || letters[at] != c) {
            throw new Stop(at);
        }
        at++;
    }

    private int number(int least, int most) {
        sign(' ');
        int from = at;
        StringBuilder digits = new StringBuilder();
        while (at < letters.length && digits.length() < 4 && letters[at] >= 48 && letters[at] <= 57) {
            digits.append((char) letters[at++]);
        }
        if (digits.length() == 0 || !in(Integer.parseInt(digits.toString()), least, most)) {
            throw new Stop(from);
        }
        return Integer.parseInt(digits.toString());
    }

    private void item(World w) {
        String word = null;
        for (String one : "shop child feathers keeps ink tree do night".split(" ")) {
            if (at < letters.length && letters[at] == one.charAt(0)) {
                word = one;
            }
        }
        if (word == null) {
            throw new Stop(at);
        }
        int place = at;
        for (char c : word.toCharArray()) {
            sign(c);
        }
        switch (word) {
            case "shop": {
                if (w.shops.size() == 6) {
                    throw new Stop(place);
                }
                int kind = number(0, 6);
                int a = number(0, 9);
                found(w, kind, a, number(1, 999));
                break;
            }
            case "child": {
                if (w.kids.size() == 6) {
                    throw new Stop(place);
                }
                int nimble = number(1, 99);
                born(w, nimble, number(0, 9999));
                break;
            }
            case "feathers": {
                Kid k = w.kids.get(number(0, w.kids.size() - 1));
                k.feathers = number(0, 99);
                break;
            }
            case "keeps": {
                Kid k = w.kids.get(number(0, w.kids.size() - 1));
                k.keeps = number(0, w.shops.size() - 1);
                break;
            }
            case "ink":
                w.ink = number(0, 99);
                break;
            case "tree":
                w.tree = number(0, 9999);
                break;
            case "do": {
                Kid k = w.kids.get(number(0, w.kids.size() - 1));
                int x = at + 1;
                int deed = number(0, 9999);
                if (!w.may(k).contains(deed)) {
                    throw new Stop(x);
                }
                w.act(k, deed);
                break;
            }
            default:
                w.night();
                break;
        }
    }

    public int fault() {
        return fault;
    }

    public int may(int child) {
        want(isKid(child), -1);
        int bits = 0;
        for (int deed : now.may(now.kids.get(child))) {
            bits += 1 << deed;
        }
        return bits;
    }

    // ---- in thought

    private World ahead(int rule, int n) {
        return now.again().minutes(rule, n);
    }

    private void wantRule(int rule, int n, int apart) {
        want(in(rule, 0, 3) && in(n, 0, 240), apart - 6);
    }

    public int behind(int rule, int n, int child, int what) {
        want(isKid(child), -1);
        want(what == 1 || what == 2 || what == 4, -5);
        wantRule(rule, n, 0);
        Kid k = ahead(rule, n).kids.get(child);
        return what == 1 ? k.leaves : what == 2 ? k.stamps : k.cakes;
    }

    public int asks(int rule, int n, int shop) {
        want(isShop(shop), -1);
        wantRule(rule, n, 0);
        return ahead(rule, n).shops.get(shop).cost();
    }

    public int deals(int rule, int n, int what) {
        want(in(what, 0, 1), -5);
        wantRule(rule, n, 0);
        return what == 0 ? ahead(rule, n).deals - now.deals : ahead(rule, n).till;
    }

    public int runs(int rule, int n, int shop) {
        want(isShop(shop), -11);
        wantRule(rule, n, -10);
        return Integer.signum(ahead(rule, n).shops.get(shop).cost() - now.shops.get(shop).cost());
    }

    public int settles(int rule, int what) {
        want(in(what, 0, 1), -15);
        wantRule(rule, 0, -10);
        World w = now.again();
        List<List<Integer>> costs = new ArrayList<>(List.of(w.costs()));
        List<Integer> deals = new ArrayList<>();
        for (int t = 0; t < 240; t++) {
            int before = w.deals;
            w.minutes(rule, 1);
            deals.add(w.deals - before);
            costs.add(w.costs());
        }
        for (int t = 0; t <= 240; t++) {
            boolean same = what == 0;
            for (int u = t; u <= 240 && same; u++) {
                same = costs.get(u).equals(costs.get(t));
            }
            if (same) {
                return t;
            }
            if (what == 1 && t < 240 && Collections.max(deals.subList(t, 240)) == 0) {
                return t;
            }
        }
        return -1;
    }

    public int picked(int child, int shop) {
        want(isKid(child) && isShop(shop), -1);
        int minutes = 0;
        for (int has = 0; has < now.shops.get(shop).cost(); has += now.kids.get(child).nimble) {
            minutes++;
        }
        return minutes;
    }

    public int cheapest() {
        want(!now.shops.isEmpty(), -5);
        return now.costs().indexOf(Collections.min(now.costs()));
    }

    public int money(int n) {
        want(in(n, 0, 240), -6);
        int feathers = 0;
        for (Kid k : now.kids) {
            feathers += k.feathers;
        }
        List<Integer> all = List.of(deals(0, n, 0), deals(2, n, 0), feathers);
        return all.indexOf(Collections.max(all));
    }

    public int inked(int n) {
        want(in(n, 0, 60), -6);
        List<Integer> all = new ArrayList<>();
        for (int ink = 0; ink <= 20; ink++) {
            World w = now.again();
            w.ink = ink;
            all.add(w.minutes(2, n).deals);
        }
        return all.indexOf(Collections.max(all));
    }

    public int keepers(int k, int i) {
        want(in(k, 1, 4) && k <= now.shops.size() && k <= now.kids.size(), -6);
        want(i == -1 || in(i, 0, k - 1), -5);
        List<Integer> best = null;
        int most = -1;
        for (List<Integer> way : ways(k)) {
            World w = now.again();
            for (int c = 0; c < w.kids.size(); c++) {
                w.kids.get(c).keeps = way.indexOf(c);
            }
            int made = w.minutes(0, 30).deals - now.deals;
            if (made > most) {
                most = made;
                best = way;
            }
        }
        return i == -1 ? most : best.get(i);
    }

    private List<List<Integer>> ways(int k) {
        List<List<Integer>> all = new ArrayList<>();
        if (k == 0) {
            all.add(List.of());
            return all;
        }
        for (List<Integer> way : ways(k - 1)) {
            for (int c = 0; c < now.kids.size(); c++) {
                if (!way.contains(c)) {
                    List<Integer> longer = new ArrayList<>(way);
                    longer.add(c);
                    all.add(longer);
                }
            }
        }
        return all;
    }

    public int bored(int rule, int n) {
        want(!now.kids.isEmpty(), -5);
        wantRule(rule, n, 0);
        List<Integer> all = new ArrayList<>();
        for (Kid k : ahead(rule, n).kids) {
            all.add(k.cakes);
        }
        return all.indexOf(Collections.min(all));
    }

    public int bank(int n) {
        wantRule(0, n, 0);
        int most = 0;
        for (Kid k : ahead(0, n).kids) {
            most = k.leaves > most ? k.leaves : most;
        }
        return most;
    }

    public int rot(int rule, int n) {
        wantRule(rule, n, 0);
        return ahead(rule, n).night();
    }

    public int trust(int child, int shop) {
        want(isKid(child) && isShop(shop), -11);
        World w = now.again();
        for (int t = 0; t <= 240; t++) {
            if (w.kids.get(child).leaves >= now.shops.get(shop).cost()) {
                return t;
            }
            w.act(w.kids.get(child), 1);
        }
        return -1;
    }

    public int heap(int rule, int v) {
        want(v >= 0, -16);
        wantRule(rule, 0, -10);
        World w = now.again();
        for (int t = 0; t <= 240; t++) {
            if (w.till >= v) {
                return t;
            }
            w.minutes(rule, 1);
        }
        return -1;
    }

    // ---- told afternoons

    private World lived;

    private int wrongOf(int s, int n, int apart) {
        long[] e = (long[]) wantRow(s, apart)[1];
        want(n >= 0, apart - 4);
        want(n <= e.length, apart - 5);
        lived = now.again();
        int kids = lived.kids.size();
        for (int i = 0; kids > 0 && i < n / kids * kids; i++) {
            Kid k = lived.kids.get(i % kids);
            if (i % kids == 0) {
                lived.soldNow.clear();
            }
            if (!lived.may(k).contains((int) e[i])) {
                return i;
            }
            lived.act(k, (int) e[i]);
            if (i % kids == kids - 1) {
                lived.minuteEnds();
            }
        }
        return -1;
    }

    public int judge(int s, int n) {
        return wrongOf(s, n, -10);
    }

    public int told(int s, int n, int what) {
        int wrong = wrongOf(s, n, 0);
        want(in(what, 0, 1) || in(what, 10, 9 + now.kids.size()), -5);
        want(wrong == -1, -6);
        return what == 0 ? lived.deals - now.deals : what == 1 ? lived.till : lived.kids.get(what - 10).cakes;
    }

    public int done(int s, int n) {
        want(wrongOf(s, n, 0) == -1, -6);
        now = lived;
        return now.clock;
    }

    // ---- in truth

    public int does(int child, int deed) {
        want(isKid(child), -1);
        want(now.may(now.kids.get(child)).contains(deed), -6);
        now.act(now.kids.get(child), deed);
        return 1;
    }

    public int minute(int rule) {
        wantRule(rule, 0, 0);
        return now.minutes(rule, 1).clock;
    }

    public int night() {
        return now.night();
    }

    public int afternoon(int n) {
        want(in(n, 1, 240), -6);
        int before = now.deals;
        for (int t = 0; t < n; t++) {
            now.soldNow.clear();
            for (Kid k : now.kids) {
                int draw = now.draw(4);
                now.act(k, draw == 0 ? now.byRule(k, 0) : draw == 3 ? now.byRule(k, 3) : now.ifMay(k, draw));
            }
            now.minuteEnds();
        }
        return now.deals - before;
    }

    public int seed(int v) {
        int was = now.seed;
        now.seed = v;
        return was;
    }

    // ---- moves, image, status

    public int act(int shop, int move, int x) {
        ran = new ArrayList<>();
        if (!isShop(shop) || !in(move, 0, 2)) {
            return 0;
        }
        Shop s = now.shops.get(shop);
        s.ran = ran;
        return move == 0 ? s.asks(x) : move == 1 ? s.sells(x) : s.shuts(x);
    }

    public int trace(int i) {
        return in(i, 0, Math.min(20, ran.size()) - 1) ? ran.get(i) : -1;
    }

    public int image() {
        image = now.again();
        return now.shops.size();
    }

    public int restore() {
        want(image != null, -6);
        now = image.again();
        for (int s = 0; s < 8; s++) {
            if (shelves[s] instanceof Integer && !isShop((Integer) shelves[s])) {
                shelves[s] = null;
            }
        }
        return now.shops.size();
    }

    public int status(int what) {
        int[] all = {now.shops.size(), now.kids.size(), now.clock, now.till, now.ink, now.tree, now.deals, now.seed,
            ran.size(), -1, -1};
        if (in(what, 11, 17)) {
            return refused[what - 10];
        }
        return in(what, 0, 10) ? all[what] : -1;
    }

    @Override
    public String toString() {
        return now.costs() + " " + Arrays.toString(refused);
    }
}
