import java.util.ArrayList;
import java.util.Arrays;
import java.util.List;

/**
 * The document's words done in the most plodding way, to be compared with the class: grains in
 * lists, sets by trying all, DAYS as a tree.
 */
final class Model {
    static final int NONE = -1;

    static final class House {
        String name;
        boolean gone;
        int salt;
        int sugar;
        int snow;

        int grains() {
            return salt + sugar;
        }
    }

    static final class Quarrel {
        String name;
        int[] side = new int[2];
        int needs;
        boolean over;
        int war;
    }

    static final class Cat {
        String name;
        int from;
        int to;
        int takes;
    }

    static final class Grocer {
        String name;
        int stock;
        int price;
        int sweet;
    }

    /** A STEP of the DAYS; when and loop have others within. */
    static final class Step {
        String word;
        int thing;
        int number;
        int house;
        String test;
        List<Step> within = new ArrayList<>();
    }

    List<House> houses = new ArrayList<>();
    List<Quarrel> quarrels = new ArrayList<>();
    List<Cat> cats = new ArrayList<>();
    List<Grocer> grocers = new ArrayList<>();
    List<Step> days;
    int washes = 5;
    boolean goneCounts;
    int day;
    boolean rained;
    int purse;
    int bought;
    int washed;
    int swept;
    int melted;
    int done;
    int[] lived = new int[5];
    boolean stopped;
    int seed;

    Model copy() {
        Model m = new Model();
        for (House h : houses) {
            House k = new House();
            k.name = h.name;
            k.gone = h.gone;
            k.salt = h.salt;
            k.sugar = h.sugar;
            k.snow = h.snow;
            m.houses.add(k);
        }
        for (Quarrel q : quarrels) {
            Quarrel k = new Quarrel();
            k.name = q.name;
            k.side = q.side.clone();
            k.needs = q.needs;
            k.over = q.over;
            k.war = q.war;
            m.quarrels.add(k);
        }
        for (Grocer g : grocers) {
            Grocer k = new Grocer();
            k.name = g.name;
            k.stock = g.stock;
            k.price = g.price;
            k.sweet = g.sweet;
            m.grocers.add(k);
        }
        m.cats = cats;
        m.days = days;
        m.washes = washes;
        m.goneCounts = goneCounts;
        m.day = day;
        m.rained = rained;
        m.purse = purse;
        m.bought = bought;
        m.washed = washed;
        m.swept = swept;
        m.melted = melted;
        m.lived = lived.clone();
        return m;
    }

    /** The QUARREL of each grain in turn, NONE for nobody's. */
    int[] owners(int house) {
        House h = houses.get(house);
        int[] owner = new int[h.grains()];
        Arrays.fill(owner, NONE);
        if (h.snow > 0) {
            return owner;
        }
        int at = 0;
        for (int q = 0; q < quarrels.size(); q++) {
            Quarrel one = quarrels.get(q);
            if (one.side[0] == house || one.side[1] == house) {
                for (int i = 0; i < one.needs && at < owner.length; i++) {
                    owner[at++] = q;
                }
            }
        }
        return owner;
    }

    int share(int quarrel, int side) {
        int many = 0;
        for (int owner : owners(quarrels.get(quarrel).side[side])) {
            many += owner == quarrel ? 1 : 0;
        }
        return many;
    }

    boolean content(int quarrel, int side) {
        if (houses.get(quarrels.get(quarrel).side[side]).gone) {
            return goneCounts;
        }
        return share(quarrel, side) == quarrels.get(quarrel).needs;
    }

    private boolean calm(int quarrel, int side) {
        return content(quarrel, side) || share(quarrel, side) >= 1;
    }

    int peace() {
        int set = 0;
        for (int q = 0; q < quarrels.size(); q++) {
            set |= content(q, 0) && content(q, 1) ? 1 << q : 0;
        }
        return set;
    }

    int truce() {
        int set = 0;
        for (int q = 0; q < quarrels.size(); q++) {
            set |= calm(q, 0) && calm(q, 1) ? 1 << q : 0;
        }
        return set;
    }

    int over() {
        int set = 0;
        for (int q = 0; q < quarrels.size(); q++) {
            set |= quarrels.get(q).over ? 1 << q : 0;
        }
        return set;
    }

    int hopeless() {
        int set = 0;
        for (int q = 0; q < quarrels.size(); q++) {
            boolean gone = houses.get(quarrels.get(q).side[0]).gone || houses.get(quarrels.get(q).side[1]).gone;
            set |= gone && !goneCounts ? 1 << q : 0;
        }
        return set;
    }

    int gone() {
        int set = 0;
        for (int h = 0; h < houses.size(); h++) {
            set |= houses.get(h).gone ? 1 << h : 0;
        }
        return set;
    }

    int ghosts() {
        int set = 0;
        for (int q = 0; q < quarrels.size(); q++) {
            boolean both = houses.get(quarrels.get(q).side[0]).gone && houses.get(quarrels.get(q).side[1]).gone;
            set |= both ? 1 << q : 0;
        }
        return set;
    }

    int steps(int what) {
        int many = 0;
        for (House h : houses) {
            boolean[] looks = {h.sugar > 0, h.snow > 0, h.grains() == 0 && h.snow == 0};
            many += !h.gone && looks[what] ? 1 : 0;
        }
        return many;
    }

    void strew(int house, int grains) {
        houses.get(house).salt += grains;
        bought += grains;
    }

    int buy(int grocer, int grains, int house) {
        Grocer g = grocers.get(grocer);
        int sweet = (int) Math.floor(grains * g.sweet / 16.0);
        g.stock -= grains;
        purse -= g.price * grains;
        bought += grains;
        houses.get(house).sugar += sweet;
        houses.get(house).salt += grains - sweet;
        return sweet;
    }

    int sweep(int house) {
        int all = houses.get(house).grains();
        houses.get(house).salt = 0;
        houses.get(house).sugar = 0;
        swept += all;
        return all;
    }

    /** Grain by grain, SALT first. */
    int carry(int from, int to, int grains) {
        int salty = 0;
        for (int i = 0; i < grains; i++) {
            if (houses.get(from).salt > 0) {
                houses.get(from).salt--;
                houses.get(to).salt++;
                salty++;
            } else if (houses.get(from).sugar > 0) {
                houses.get(from).sugar--;
                houses.get(to).sugar++;
            }
        }
        return salty;
    }

    int rain() {
        int away = 0;
        for (House h : houses) {
            away += h.sugar;
            h.sugar = 0;
            for (int i = 0; i < washes && h.salt > 0; i++) {
                h.salt--;
                away++;
            }
        }
        washed += away;
        rained = true;
        return away;
    }

    void snow(int n) {
        for (House h : houses) {
            h.snow = h.gone ? 0 : Math.min(99, h.snow + n);
        }
    }

    void night() {
        for (Cat c : cats) {
            if (houses.get(c.from).snow == 0) {
                carry(c.from, c.to, c.takes);
            }
        }
        for (House h : houses) {
            while (h.salt > 0 && h.snow > 0) {
                h.salt--;
                h.snow--;
                melted++;
            }
        }
        int set = peace();
        for (int q = 0; q < quarrels.size(); q++) {
            Quarrel one = quarrels.get(q);
            if ((set >> q & 1) == 1) {
                lived[2] += one.over ? 0 : 1;
                one.over = true;
            } else if (rained) {
                lived[3] += one.over ? 1 : 0;
                one.over = false;
            }
            one.war += one.over ? 0 : 1;
        }
        day = Math.min(999, day + 1);
        rained = false;
    }

    Model later(int nights) {
        Model m = copy();
        for (int i = 0; i < nights; i++) {
            m.night();
        }
        return m;
    }

    int live(int firstSeed) {
        seed = firstSeed;
        done = 0;
        lived = new int[5];
        stopped = false;
        doAll(days);
        return done;
    }

    private void doAll(List<Step> steps) {
        for (Step s : steps) {
            if (stopped) {
                return;
            }
            if (done == 300) {
                lived[4] = 1;
                stopped = true;
                return;
            }
            done++;
            doOne(s);
        }
    }

    private void doOne(Step s) {
        switch (s.word) {
            case "strew" -> {
                if (houses.get(s.thing).grains() + s.number > 9999) {
                    lived[0]++;
                } else {
                    strew(s.thing, s.number);
                }
            }
            case "buy" -> {
                if (houses.get(s.house).grains() + s.number > 9999 || grocers.get(s.thing).stock < s.number) {
                    lived[0]++;
                } else {
                    buy(s.thing, s.number, s.house);
                }
            }
            case "sweep" -> sweep(s.thing);
            case "rain" -> {
                seed = (int) ((seed * 2791L + 11003) % 65536);
                if (seed / 8 % 16 < s.number) {
                    rain();
                    lived[1]++;
                }
            }
            case "snow" -> snow(s.number);
            case "night" -> {
                if (day == 999) {
                    lived[0]++;
                } else {
                    night();
                }
            }
            case "when" -> {
                if (holds(s)) {
                    doAll(s.within);
                }
            }
            case "loop" -> {
                for (int i = 0; i < s.number && !stopped; i++) {
                    doAll(s.within);
                }
            }
            default -> stopped = true;
        }
    }

    private boolean holds(Step s) {
        return switch (s.test) {
            case "over" -> quarrels.get(s.thing).over;
            case "truce" -> (truce() >> s.thing & 1) == 1;
            case "<" -> houses.get(s.thing).grains() < s.number;
            case ">" -> houses.get(s.thing).grains() > s.number;
            default -> houses.get(s.thing).grains() == s.number;
        };
    }

    int stepsIn(List<Step> steps) {
        int many = 0;
        for (Step s : steps) {
            many += 1 + stepsIn(s.within);
        }
        return many;
    }

    int needed(int set, int house) {
        int sum = 0;
        for (int q = 0; q < quarrels.size(); q++) {
            Quarrel one = quarrels.get(q);
            boolean here = one.side[0] == house || one.side[1] == house;
            sum += (set >> q & 1) == 1 && here ? one.needs : 0;
        }
        return sum;
    }

    int most() {
        int best = 0;
        for (int set = 1 << quarrels.size(); set-- > 0;) {
            boolean fits = (set & hopeless()) == 0;
            for (int h = 0; h < houses.size(); h++) {
                House one = houses.get(h);
                fits &= one.gone || needed(set, h) <= (one.snow > 0 ? 0 : one.grains());
            }
            if (fits && Integer.bitCount(set) >= Integer.bitCount(best)) {
                best = set;
            }
        }
        return best;
    }

    int lackAt(int set, int house) {
        return (set & hopeless()) != 0 ? NONE : Math.max(0, needed(set, house) - houses.get(house).grains());
    }

    int lack(int set) {
        if ((set & hopeless()) != 0) {
            return NONE;
        }
        int sum = 0;
        for (int h = 0; h < houses.size(); h++) {
            sum += houses.get(h).gone ? 0 : lackAt(set, h);
        }
        return sum;
    }

    int freed(int quarrel) {
        Model m = copy();
        m.quarrels.get(quarrel).needs = 0;
        return m.peace() & ~peace() & ~(1 << quarrel);
    }

    int best(int grains) {
        int found = NONE;
        int most = 0;
        for (int h = 0; h < houses.size(); h++) {
            if (!houses.get(h).gone) {
                Model m = copy();
                m.houses.get(h).salt += grains;
                int many = Integer.bitCount(m.peace() & ~peace());
                if (many > most) {
                    most = many;
                    found = h;
                }
            }
        }
        return found;
    }

    int closest() {
        int found = NONE;
        for (int q = quarrels.size(); q-- > 0;) {
            boolean open = (peace() >> q & 1) == 0 && (hopeless() >> q & 1) == 0;
            if (open && (found == NONE || lack(1 << q) <= lack(1 << found))) {
                found = q;
            }
        }
        return found;
    }

    /** The least moved over all ways to say who has one grain more. */
    int level() {
        List<Integer> heaps = new ArrayList<>();
        int sum = 0;
        for (House h : houses) {
            if (!h.gone) {
                heaps.add(h.grains());
                sum += h.grains();
            }
        }
        if (heaps.isEmpty()) {
            return 0;
        }
        int best = Integer.MAX_VALUE;
        for (int set = 0; set < 1 << heaps.size(); set++) {
            if (Integer.bitCount(set) == sum % heaps.size()) {
                int moved = 0;
                for (int i = 0; i < heaps.size(); i++) {
                    moved += Math.max(0, heaps.get(i) - sum / heaps.size() - (set >> i & 1));
                }
                best = Math.min(best, moved);
            }
        }
        return best;
    }

    int wants(int house) {
        int set = 0;
        for (int q = 0; q < quarrels.size(); q++) {
            for (int side = 0; side < 2; side++) {
                boolean here = quarrels.get(q).side[side] == house;
                set |= here && !content(q, side) && content(q, 1 - side) ? 1 << q : 0;
            }
        }
        return set;
    }

    int reaches(int house) {
        int set = 0;
        List<Integer> todo = new ArrayList<>(List.of(house));
        while (!todo.isEmpty()) {
            int h = todo.remove(0);
            if ((set >> h & 1) == 0) {
                set |= 1 << h;
                for (Cat c : cats) {
                    if (c.from == h) {
                        todo.add(c.to);
                    }
                }
            }
        }
        return set;
    }

    int chain(int quarrel) {
        int set = 0;
        List<Integer> todo = new ArrayList<>(List.of(quarrel));
        while (!todo.isEmpty()) {
            int q = todo.remove(0);
            if ((set >> q & 1) == 0) {
                set |= 1 << q;
                for (int r = 0; r < quarrels.size(); r++) {
                    for (int i = 0; i < 4; i++) {
                        if (quarrels.get(q).side[i / 2] == quarrels.get(r).side[i % 2]) {
                            todo.add(r);
                        }
                    }
                }
            }
        }
        return set;
    }

    /** The PRICES of all grains in all STOCKS, the cheapest first. */
    List<Integer> prices() {
        List<Integer> all = new ArrayList<>();
        for (Grocer g : grocers) {
            for (int i = 0; i < g.stock; i++) {
                all.add(g.price);
            }
        }
        all.sort(null);
        return all;
    }

    /** By Hall: each set of STEPS misses no more than those near it could have swept. */
    int who(int[] missing, int grains) {
        int n = houses.size();
        int best = NONE;
        for (int set = 0; set < 1 << n; set++) {
            boolean fine = true;
            for (int at = 0; at < 1 << n; at++) {
                int sum = 0;
                int near = 0;
                for (int h = 0; h < n; h++) {
                    if ((at >> h & 1) == 1) {
                        sum += missing[h];
                        near |= (1 << h) | (1 << h >> 1) | (1 << h << 1);
                    }
                }
                fine &= sum <= grains * Integer.bitCount(near & set);
            }
            if (fine && (best == NONE || Integer.bitCount(set) < Integer.bitCount(best))) {
                best = set;
            }
        }
        return best;
    }
}
