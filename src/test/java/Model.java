import java.util.ArrayList;
import java.util.Arrays;
import java.util.List;

/**
 * The document once more, as slow and as plain as can be: all ways are gone through,
 * fractions are of longs, and what may be undone is a list of copies.
 */
final class Model {
    static final class Person {
        int name, wealth, bills, deeds;
        boolean hurt;

        Person copy() {
            Person c = new Person();
            c.name = name;
            c.wealth = wealth;
            c.bills = bills;
            c.deeds = deeds;
            c.hurt = hurt;
            return c;
        }
    }

    static final class World {
        List<Person> people = new ArrayList<>();
        int laws = 15, chest = 0, years = 0;

        World copy() {
            World c = new World();
            for (Person p : people) {
                c.people.add(p.copy());
            }
            c.laws = laws;
            c.chest = chest;
            c.years = years;
            return c;
        }
    }

    String text = "";
    int names = 4;
    boolean[][] quarrel = new boolean[7][7];
    World w = new World();
    List<World> past = new ArrayList<>();
    List<int[]> told = new ArrayList<>();
    List<int[]> record = new ArrayList<>();
    World[] images = new World[2];
    long trace = 0;

    int type(int c) {
        if (c < 0 || c > 255) return -1;
        if (text.length() == 200) return -3;
        text += (char) c;
        return text.length();
    }

    int clear() {
        int n = text.length();
        text = "";
        return n;
    }

    /** The tokens are cut first; then each item is looked at as a whole. */
    int republic() {
        List<String> tokens = new ArrayList<>();
        List<Integer> places = new ArrayList<>();
        for (int i = 0; i < text.length(); ) {
            char c = text.charAt(i);
            int j = i + 1;
            if (c != ' ') {
                if ("0123456789".indexOf(c) >= 0) {
                    while (j < text.length() && "0123456789".indexOf(text.charAt(j)) >= 0) j++;
                }
                tokens.add(text.substring(i, j));
                places.add(i);
            }
            i = j;
        }
        places.add(text.length());
        int newNames = 4, newLaws = -1, items = 0, at = 0;
        List<Person> people = new ArrayList<>();
        boolean[][] newQuarrel = new boolean[7][7];
        while (at < tokens.size()) {
            String head = tokens.get(at);
            boolean fine = head.equals("n") && items == 0 || head.equals("p") && people.size() < 7
                || head.equals("q") || head.equals("l") && newLaws < 0;
            if (!fine) return -10 - places.get(at);
            int many = head.equals("p") ? 3 : head.equals("q") ? 2 : 1;
            int[] v = new int[3];
            for (int i = 0; i < many; i++) {
                at++;
                if (at >= tokens.size()) return -10 - text.length();
                String t = tokens.get(at);
                if (!t.matches("0|[1-9][0-9]?")) return -10 - places.get(at);
                v[i] = Integer.parseInt(t);
                boolean may;
                if (head.equals("n")) may = v[i] >= 1 && v[i] <= 4;
                else if (head.equals("l")) may = v[i] <= 15;
                else if (head.equals("q")) may = v[i] < people.size() && (i == 0 || v[0] != v[1]);
                else may = i == 0 ? v[i] < newNames : i == 1 || v[i] <= 31;
                if (!may) return -10 - places.get(at);
            }
            at++;
            if (at >= tokens.size()) return -10 - text.length();
            if (!tokens.get(at).equals(";")) return -10 - places.get(at);
            at++;
            items++;
            if (head.equals("n")) newNames = v[0];
            if (head.equals("l")) newLaws = v[0];
            if (head.equals("q")) {
                newQuarrel[v[0]][v[1]] = true;
                newQuarrel[v[1]][v[0]] = true;
            }
            if (head.equals("p")) {
                Person p = new Person();
                p.name = v[0];
                p.wealth = v[1];
                p.bills = v[2];
                people.add(p);
            }
        }
        text = "";
        names = newNames;
        quarrel = newQuarrel;
        w = new World();
        w.people = people;
        w.laws = newLaws < 0 ? 15 : newLaws;
        past.clear();
        told.clear();
        record.clear();
        images = new World[2];
        return items;
    }

    boolean is(int p) {
        return p >= 0 && p < w.people.size();
    }

    static boolean limps(World w, int p) {
        for (int q = 0; q < w.people.size(); q++) {
            boolean counts = q == p || (w.laws & 1) != 0 && w.people.get(q).name == w.people.get(p).name;
            if (counts && w.people.get(q).hurt) return true;
        }
        return false;
    }

    static int fame(World w, int p) {
        int sum = 0;
        for (int q = 0; q < w.people.size(); q++) {
            boolean counts = q == p || (w.laws & 8) != 0 && w.people.get(q).name == w.people.get(p).name;
            if (counts) sum += w.people.get(q).deeds;
        }
        return sum;
    }

    static int tax(World w, int p) {
        int sum = 0, many = 0;
        for (int q = 0; q < w.people.size(); q++) {
            boolean counts = q == p || (w.laws & 4) != 0 && w.people.get(q).name == w.people.get(p).name;
            if (counts) {
                sum += w.people.get(q).wealth;
                many++;
            }
        }
        return sum / many / 10;
    }

    static World named(World w, int p, int k) {
        World c = w.copy();
        c.people.get(p).name = k;
        return c;
    }

    static int[] votes(World w, int b) {
        int[] noYes = new int[2];
        if ((w.laws & 2) == 0) {
            for (Person p : w.people) noYes[p.bills >> b & 1]++;
            return noYes;
        }
        for (int k = 0; k < 4; k++) {
            int more = 0;
            for (Person p : w.people) if (p.name == k) more += (p.bills >> b & 1) == 1 ? 1 : -1;
            if (more > 0) noYes[1]++;
            if (more < 0) noYes[0]++;
        }
        return noYes;
    }

    static boolean passes(World w, int b) {
        int[] v = votes(w, b);
        return v[1] > v[0];
    }

    int person(int p, int what) {
        if (!is(p) || what < 0 || what > 7) return -1;
        Person x = w.people.get(p);
        return new int[] {x.name, x.wealth, x.bills, x.hurt ? 1 : 0, limps(w, p) ? 1 : 0, x.deeds, fame(w, p),
            tax(w, p)}[what];
    }

    int quarrels(int p) {
        if (!is(p)) return -1;
        int bits = 0;
        for (int q = 0; q < 7; q++) if (quarrel[p][q]) bits += 1 << q;
        return bits;
    }

    static long gcd(long a, long b) {
        return b == 0 ? a : gcd(b, a % b);
    }

    int name(int k, int what) {
        if (k < 0 || k >= names || what < 0 || what > 2) return -1;
        int bits = 0, sum = 0, many = 0;
        for (int p = 0; p < w.people.size(); p++) {
            if (w.people.get(p).name == k) {
                bits += 1 << p;
                sum += w.people.get(p).wealth;
                many++;
            }
        }
        if (what == 0) return bits;
        if (many == 0) return what == 1 ? 0 : 1;
        return (int) ((what == 1 ? sum : many) / gcd(sum, many));
    }

    int bill(int b, int what) {
        if (b < 0 || b > 4 || what < 0 || what > 3) return -1;
        int[] v = votes(w, b);
        if (what == 0) return v[1];
        if (what == 1) return v[0];
        if (what == 2) return v[1] > v[0] ? 1 : 0;
        int bits = 0;
        for (int k = 0; k < names; k++) {
            World c = w.copy();
            final int gone = k;
            c.people.removeIf(p -> p.name == gone);
            if (passes(c, b) != passes(w, b)) bits += 1 << k;
        }
        return bits;
    }

    int now(int what) {
        int n = w.people.size(), bits = 0;
        switch (what) {
            case 0: return w.years;
            case 1: return w.chest;
            case 2: return w.laws;
            case 3:
                for (int p = 0; p < n; p++) if (limps(w, p)) bits += 1 << p;
                return bits;
            case 4:
                int twos = 0;
                for (int p = 0; p < n; p++) for (int q = 0; q < n; q++) {
                    if (quarrel[p][q] && w.people.get(p).name == w.people.get(q).name) twos++;
                }
                return twos / 2;
            case 5:
                for (int p = 0; p < n; p++) {
                    int same = 0;
                    for (Person q : w.people) if (q.name == w.people.get(p).name) same++;
                    if (same == 1) bits += 1 << p;
                }
                return bits;
            case 6:
                for (int p = 0; p < n; p++) {
                    boolean less = false;
                    for (int k = 0; k < names; k++) less |= tax(named(w, p, k), p) < tax(w, p);
                    if (less) bits += 1 << p;
                }
                return bits;
            case 7: return past.size();
            default: return -1;
        }
    }

    void mark() {
        past.add(w.copy());
        if (past.size() > 10) past.remove(0);
    }

    int hurts(int p, int is) {
        if (!is(p) || is != 0 && is != 1) return -1;
        mark();
        boolean was = w.people.get(p).hurt;
        w.people.get(p).hurt = is == 1;
        return was ? 1 : 0;
    }

    int deeds(int p) {
        if (!is(p)) return -1;
        if (w.people.get(p).deeds == 99) return -2;
        mark();
        w.people.get(p).deeds++;
        return fame(w, p);
    }

    int earns(int p, int n) {
        if (!is(p) || n < -99 || n > 99) return -1;
        mark();
        int sum = w.people.get(p).wealth + n;
        return w.people.get(p).wealth = sum < 0 ? 0 : sum > 999 ? 999 : sum;
    }

    int names(int p, int k) {
        if (!is(p) || k < 0 || k >= names) return -1;
        mark();
        int was = w.people.get(p).name;
        w.people.get(p).name = k;
        return was;
    }

    int laws(int set) {
        if (set < 0 || set > 15) return -1;
        mark();
        int were = w.laws;
        w.laws = set;
        return were;
    }

    int year() {
        if (w.years == 999) return -2;
        mark();
        World ahead = w.copy();
        int paid = 0;
        for (int p = 0; p < w.people.size(); p++) {
            int pays = Math.min(tax(ahead, p), ahead.people.get(p).wealth);
            w.people.get(p).wealth -= pays;
            paid += pays;
        }
        w.chest = Math.min(999999, w.chest + paid);
        w.years++;
        return paid;
    }

    int undo() {
        if (past.isEmpty()) return -2;
        w = past.remove(past.size() - 1);
        return past.size();
    }

    int apart(int p) {
        int n = w.people.size();
        if (p != -1 && !is(p)) return -1;
        int[] best = null;
        int fewest = 99, ways = 1;
        for (int i = 0; i < n; i++) ways *= names;
        for (int code = 0; code < ways; code++) {
            int[] way = new int[n];
            int rest = code, renamed = 0;
            for (int i = n - 1; i >= 0; i--) {
                way[i] = rest % names;
                rest /= names;
                if (way[i] != w.people.get(i).name) renamed++;
            }
            boolean fine = true;
            for (int i = 0; i < n; i++) for (int j = 0; j < i; j++) fine &= !quarrel[i][j] || way[i] != way[j];
            if (fine && renamed < fewest) {
                fewest = renamed;
                best = way;
            }
        }
        return best == null ? -9 : p == -1 ? fewest : best[p];
    }

    int cheapest(int p) {
        if (!is(p)) return -1;
        int best = 0;
        for (int k = names - 1; k >= 0; k--) {
            if (tax(named(w, p, k), p) <= tax(named(w, p, best), p)) best = k;
        }
        return best;
    }

    int tells(int p, int is) {
        if (!is(p) || is != 0 && is != 1) return -1;
        if (told.size() == 6) return -3;
        told.add(new int[] {p, is});
        return told.size();
    }

    int record(int b, int passed) {
        if (b < 0 || b > 4 || passed != 0 && passed != 1) return -1;
        if (record.size() == 6) return -3;
        record.add(new int[] {b, passed});
        return record.size();
    }

    int forget() {
        int n = told.size() + record.size();
        told.clear();
        record.clear();
        return n;
    }

    boolean toldIsSo(World c) {
        for (int[] t : told) if (limps(c, t[0]) != (t[1] == 1)) return false;
        return true;
    }

    int who() {
        int bits = 0;
        for (int p = -1; p < w.people.size(); p++) {
            World c = w.copy();
            for (int q = 0; q < w.people.size(); q++) c.people.get(q).hurt = q == p;
            if (toldIsSo(c)) bits += p < 0 ? 128 : 1 << p;
        }
        return bits;
    }

    int which(int what) {
        if (what < 0 || what > 2) return -1;
        List<Integer> sets = new ArrayList<>();
        for (int laws = 0; laws < 16; laws++) {
            World c = w.copy();
            c.laws = laws;
            boolean so = toldIsSo(c);
            for (int[] r : record) so &= passes(c, r[0]) == (r[1] == 1);
            if (so) sets.add(laws);
        }
        if (what == 0) return sets.size();
        if (sets.isEmpty()) return -9;
        int all = 15;
        for (int s : sets) all &= s;
        return what == 1 ? sets.get(0) : all;
    }

    /** All rows of mates that are in order are gone through, and the least of those with most twos is kept. */
    int married(int p) {
        if (p != -1 && !is(p)) return -1;
        int n = w.people.size();
        int[] row = new int[n];
        int[][] best = new int[1][];
        int[] most = {-1};
        mates(0, row, best, most);
        return p == -1 ? most[0] : best[0][p] == n ? -9 : best[0][p];
    }

    private void mates(int i, int[] row, int[][] best, int[] most) {
        int n = row.length;
        if (i == n) {
            int twos = 0;
            for (int mate : row) if (mate < n) twos++;
            twos /= 2;
            if (twos > most[0] || twos == most[0] && Arrays.compare(row, best[0]) < 0) {
                most[0] = twos;
                best[0] = row.clone();
            }
            return;
        }
        for (int j = n; j >= 0; j--) {
            boolean fine = j == n || j != i && !quarrel[i][j] && w.people.get(i).name != w.people.get(j).name;
            for (int e = 0; e < i; e++) fine &= (row[e] == i) == (j == e) && (j == n || row[e] != j);
            row[i] = j;
            if (fine) mates(i + 1, row, best, most);
        }
    }

    int odds(int k, int n, int v, int what) {
        if (k < 0 || k >= names || n < 0 || n > 6 || v < 0 || v > 20 || what < 0 || what > 1) return -1;
        int all = 1, good = 0;
        for (int i = 0; i < n; i++) all *= names;
        for (int code = 0; code < all; code++) {
            int many = Integer.bitCount(name(k, 0));
            for (int i = 0, rest = code; i < n; i++, rest /= names) if (rest % names == k) many++;
            if (many >= v) good++;
        }
        return (int) ((what == 0 ? good : all) / gcd(good, all));
    }

    int rate(int kind, int p) {
        if (kind < 0 || kind > 5 || !is(p)) return -1000000;
        int wealth = w.people.get(p).wealth;
        long[] marks = {1, 11, 101, 1011, 10101, 100001};
        trace += marks[kind];
        int[] rates = {wealth, wealth + fame(w, p), wealth - tax(w, p), 2 * (wealth + fame(w, p)),
            wealth - tax(w, p) + p, wealth + w.years};
        return rates[kind];
    }

    int keep(int image) {
        if (image != 0 && image != 1) return -1;
        images[image] = w.copy();
        return w.years;
    }

    int back(int image) {
        if (image != 0 && image != 1) return -1;
        if (images[image] == null) return -2;
        w = images[image].copy();
        past.clear();
        return w.years;
    }

    int count(int what) {
        int[] counts = {names, w.people.size(), told.size(), record.size(), text.length()};
        return what < 0 || what > 4 ? -1 : counts[what];
    }
}
