import java.math.BigInteger;
import java.util.ArrayList;
import java.util.List;
import java.util.Random;

/** Runs of calls by draws, each answer compared with the plodding Model's. */
public final class ModelTest {
    private static final Random DRAW = new Random(20261118);
    private static Model m;
    private static SaltStreet x;
    private static int budget;
    private static final String[] FAULTY = {
        "house a salt 9;house b gone;rain washes 9;gone counts;grocer g stock 9 price 9 sweet 9;quarrel",
        "house a gone;house b gone;house c salt 3 sugar 9;house d;quarrel p of a and b needs 3;quarrel q of c and d needs 3;!"};

    public static void main(String[] args) {
        for (int run = 0; run < 400; run++) {
            m = new Model();
            nextObject(run);
            String text = streetText();
            Checks.good(x, "street " + text, Checks.street(x, text), m.quarrels.size());
            askAll();
            for (int i = 0; i < 12; i++) {
                act();
                askAll();
            }
        }
        Checks.finish();
    }

    /** Often the one that is there already: nothing of what it read before may be left. */
    private static void nextObject(int run) {
        if (run % 5 == 0) {
            x = new SaltStreet();
        } else {
            Checks.refused(x, "a FAULT", Checks.street(x, FAULTY[run % 2]), 9);
            Checks.refused(x, "a FAULT", Checks.days(x, "loop 2;loop 3;night;"), 9);
        }
    }

    private static int draw(int n) {
        return DRAW.nextInt(n);
    }

    private static String streetText() {
        StringBuilder s = new StringBuilder();
        if (draw(2) == 0) {
            m.washes = draw(3) == 0 ? draw(100) : draw(6);
            s.append("rain washes ").append(m.washes).append(";");
        }
        int houses = draw(9);
        for (int i = 0; i < houses; i++) {
            s.append(houseText(i));
        }
        if (draw(2) == 0) {
            m.goneCounts = true;
            s.append("gone counts ;\n");
        }
        for (int i = draw(9); i > 0 && houses > 1; i--) {
            s.append(quarrelText());
        }
        for (int i = draw(5); i > 0 && houses > 1; i--) {
            s.append(catText());
        }
        for (int i = draw(5); i > 0; i--) {
            s.append(grocerText());
        }
        return s.toString();
    }

    private static String houseText(int i) {
        Model.House h = new Model.House();
        h.name = "h" + (char) ('a' + i);
        String s = "house " + h.name;
        if (draw(5) == 0) {
            h.gone = true;
            s += " gone";
        } else {
            if (draw(4) > 0) {
                h.salt = draw(40) == 0 ? draw(1000) : draw(15);
                s += " salt " + h.salt;
            }
            if (draw(3) == 0) {
                h.sugar = draw(10);
                s += " sugar " + h.sugar;
            }
        }
        m.houses.add(h);
        return s + ";";
    }

    private static String quarrelText() {
        Model.Quarrel q = new Model.Quarrel();
        q.name = "q" + (char) ('a' + m.quarrels.size());
        q.side[0] = draw(m.houses.size());
        q.side[1] = (q.side[0] + 1 + draw(m.houses.size() - 1)) % m.houses.size();
        q.needs = draw(20) == 0 ? 1 + draw(99) : 1 + draw(6);
        m.quarrels.add(q);
        return "quarrel " + q.name + " of " + m.houses.get(q.side[0]).name + " and "
                + m.houses.get(q.side[1]).name + " needs " + q.needs + ";";
    }

    private static String catText() {
        Model.Cat c = new Model.Cat();
        c.name = "c" + (char) ('a' + m.cats.size());
        c.from = draw(m.houses.size());
        c.to = (c.from + 1 + draw(m.houses.size() - 1)) % m.houses.size();
        c.takes = 1 + draw(6);
        if (m.houses.get(c.from).gone || m.houses.get(c.to).gone) {
            return "";
        }
        m.cats.add(c);
        return "cat " + c.name + " from " + m.houses.get(c.from).name + " to " + m.houses.get(c.to).name
                + " takes " + c.takes + ";";
    }

    private static String grocerText() {
        Model.Grocer g = new Model.Grocer();
        g.name = "g" + (char) ('a' + m.grocers.size());
        g.stock = draw(4) == 0 ? draw(1000) : draw(30);
        g.price = 1 + draw(9);
        g.sweet = draw(2) * draw(17);
        m.grocers.add(g);
        return "grocer " + g.name + " stock " + g.stock + " price " + g.price
                + (g.sweet > 0 || draw(2) == 0 ? " sweet " + g.sweet : "") + ";";
    }

    private static int someStep() {
        List<Integer> all = new ArrayList<>();
        for (int h = 0; h < m.houses.size(); h++) {
            if (!m.houses.get(h).gone) {
                all.add(h);
            }
        }
        return all.isEmpty() ? -1 : all.get(draw(all.size()));
    }

    private static void act() {
        int h = someStep();
        int n = draw(10) == 0 ? 1 + draw(999) : 1 + draw(12);
        switch (draw(9)) {
            case 0 -> {
                if (h >= 0 && m.houses.get(h).grains() + n <= 9999) {
                    m.strew(h, n);
                    Checks.good(x, "strew", x.strew(h, n), m.houses.get(h).salt);
                }
            }
            case 1 -> buy(h, n);
            case 2 -> {
                if (h >= 0) {
                    Checks.good(x, "sweep", x.sweep(h), m.sweep(h));
                }
            }
            case 3 -> {
                int to = someStep();
                if (h >= 0 && to != h && m.houses.get(h).grains() >= n) {
                    Checks.good(x, "shovel", x.shovel(h, to, n), m.carry(h, to, n));
                }
            }
            case 4 -> Checks.good(x, "rain()", x.rain(), m.rain());
            case 5 -> {
                int high = draw(9);
                m.snow(high);
                Checks.good(x, "snow", x.snow(high));
            }
            case 6 -> live();
            default -> {
                m.night();
                Checks.good(x, "night()", x.night(), m.day);
            }
        }
    }

    private static void buy(int house, int n) {
        if (house < 0 || m.grocers.isEmpty()) {
            return;
        }
        int g = draw(m.grocers.size());
        if (m.grocers.get(g).stock < n) {
            Checks.refused(x, "buy", x.buy(g, n, house), 6);
        } else if (m.houses.get(house).grains() + n > 9999) {
            Checks.refused(x, "buy", x.buy(g, n, house), 4);
        } else {
            Checks.good(x, "buy", x.buy(g, n, house), m.buy(g, n, house));
        }
    }

    private static void live() {
        StringBuilder s = new StringBuilder();
        budget = 30;
        List<Model.Step> days = stepsText(s, 0);
        if (s.length() > 300) {
            return;
        }
        m.days = days;
        Checks.good(x, "days " + s, Checks.days(x, s.toString()), m.stepsIn(m.days));
        int seed = draw(9980);
        int set = m.quarrels.isEmpty() ? 0 : draw(1 << m.quarrels.size()) & draw(1 << m.quarrels.size());
        int many = 1 + draw(20);
        int good = 0;
        for (int i = 0; i < many; i++) {
            Model trial = m.copy();
            trial.live(seed + i);
            good += (trial.over() & set) == set ? 1 : 0;
        }
        Checks.good(x, "odds", x.odds(set, seed, many));
        isFraction("odds", BigInteger.valueOf(good), BigInteger.valueOf(many));
        Checks.good(x, "live " + s, x.live(seed), m.live(seed));
        for (int what = 0; what < 5; what++) {
            Checks.good(x, "lived(" + what + ") of " + s, x.lived(what), m.lived[what]);
        }
    }

    private static List<Model.Step> stepsText(StringBuilder s, int depth) {
        List<Model.Step> all = new ArrayList<>();
        for (int i = draw(6); i > 0 && budget > 0; i--) {
            Model.Step one = new Model.Step();
            String head = stepHead(one, depth);
            if (head != null) {
                budget--;
                all.add(one);
                s.append(head).append(';');
                if (one.word.equals("when") || one.word.equals("loop")) {
                    one.within = stepsText(s, depth + 1);
                    s.append("end;");
                }
            }
        }
        return all;
    }

    private static String stepHead(Model.Step one, int depth) {
        String[] words = {"strew", "buy", "sweep", "rain", "snow", "night", "night", "rain", "when", "loop", "stop", "when"};
        one.word = words[draw(words.length)];
        int step = someStep();
        switch (one.word) {
            case "strew":
                one.thing = step;
                one.number = 1 + draw(draw(8) == 0 ? 999 : 9);
                return step < 0 ? null : "strew " + m.houses.get(step).name + " " + one.number;
            case "buy":
                one.thing = draw(Math.max(1, m.grocers.size()));
                one.house = step;
                one.number = 1 + draw(20);
                return step < 0 || m.grocers.isEmpty() ? null : "buy " + m.grocers.get(one.thing).name + " " + one.number
                        + " to " + m.houses.get(step).name;
            case "sweep":
                one.thing = step;
                return step < 0 ? null : "sweep " + m.houses.get(step).name;
            case "rain":
                one.number = draw(17);
                return "rain " + one.number;
            case "snow":
                one.number = draw(5);
                return "snow " + one.number;
            case "loop":
                one.number = 1 + draw(draw(4) == 0 ? 99 : 4);
                return depth >= 3 ? null : "loop " + one.number;
            case "when":
                return depth >= 3 ? null : testText(one, step);
            default:
                return one.word.equals("stop") && draw(3) > 0 ? null : one.word;
        }
    }

    private static String testText(Model.Step one, int step) {
        String[] tests = {"over", "truce", "<", ">", "="};
        one.test = tests[draw(5)];
        if (one.test.length() > 1) {
            one.thing = draw(Math.max(1, m.quarrels.size()));
            return m.quarrels.isEmpty() ? null : "when " + one.test + " " + m.quarrels.get(one.thing).name;
        }
        one.thing = step;
        one.number = draw(12);
        return step < 0 ? null : "when lies " + m.houses.get(step).name + one.test + one.number;
    }

    private static void isFraction(String call, BigInteger top, BigInteger bottom) {
        BigInteger common = top.gcd(bottom);
        Checks.fraction(x, call, top.divide(common).longValue(), bottom.divide(common).longValue());
    }

    private static void askAll() {
        askSums();
        for (int h = 0; h < m.houses.size(); h++) {
            if (!m.houses.get(h).gone) {
                askStep(h);
            }
        }
        for (int q = 0; q < m.quarrels.size(); q++) {
            askQuarrel(q);
        }
        askSets();
        askFuture();
        askGrocers();
        askWho();
    }

    private static void askSums() {
        int[] want = {m.houses.size(), m.quarrels.size(), m.cats.size(), m.grocers.size(), m.day, m.bought, m.washed,
            m.swept, m.melted};
        for (int what = 0; what < want.length; what++) {
            Checks.good(x, "told(" + what + ")", x.told(what), want[what]);
        }
        Checks.good(x, "told(10)", x.told(10), m.rained ? 1 : 0);
        Checks.good(x, "purse()", x.purse(), m.purse);
        Checks.good(x, "level()", x.level(), m.level());
        int cliff = 0;
        int fullest = -1;
        for (int h = 0; h < m.houses.size(); h++) {
            boolean gone = m.houses.get(h).gone;
            int grains = m.houses.get(h).grains();
            if (h > 0 && !gone && !m.houses.get(h - 1).gone) {
                cliff = Math.max(cliff, Math.abs(grains - m.houses.get(h - 1).grains()));
            }
            if (!gone && (fullest < 0 || grains > m.houses.get(fullest).grains())) {
                fullest = h;
            }
            int beside = (h > 0 ? m.houses.get(h - 1).grains() : 0)
                    + (h + 1 < m.houses.size() ? m.houses.get(h + 1).grains() : 0);
            Checks.good(x, "beside", x.beside(h), beside);
        }
        Checks.good(x, "cliff()", x.cliff(), cliff);
        maybe("fullest()", x.fullest(), fullest);
    }

    /** An answer that may be that there is none. */
    private static void maybe(String call, int got, int want) {
        if (want < 0) {
            Checks.refused(x, call, got, 6);
        } else {
            Checks.good(x, call, got, want);
        }
    }

    private static void askStep(int h) {
        Model.House house = m.houses.get(h);
        Checks.good(x, "SALT", x.step(h, 0), house.salt);
        Checks.good(x, "SUGAR", x.step(h, 1), house.sugar);
        Checks.good(x, "SNOW", x.step(h, 2), house.snow);
        int[] owners = m.owners(h);
        int free = 0;
        for (int k = 0; k < owners.length; k++) {
            free += owners[k] < 0 ? 1 : 0;
            if (k < 60) {
                maybe("whose", x.whose(h, k), owners[k]);
            }
        }
        Checks.refused(x, "whose", x.whose(h, owners.length), 6);
        Checks.good(x, "nobodys", x.nobodys(h), free);
        Checks.good(x, "wants", x.wants(h), m.wants(h));
        Checks.good(x, "reaches", x.reaches(h), m.reaches(h));
        int left = draw(30);
        int nights = draw(10);
        Checks.good(x, "quiet", x.quiet(h, left, nights), Math.max(0, left + nights * m.washes - house.salt));
        int tasted = 1 + draw(4);
        if (house.grains() >= tasted && house.grains() <= 9999) {
            Checks.good(x, "found", x.found(h, tasted));
            BigInteger all = BigInteger.ONE;
            BigInteger none = BigInteger.ONE;
            for (int i = 0; i < tasted; i++) {
                all = all.multiply(BigInteger.valueOf(house.grains() - i));
                none = none.multiply(BigInteger.valueOf(Math.max(0, house.salt - i)));
            }
            isFraction("found", all.subtract(none), all);
        } else {
            Checks.refused(x, "found", x.found(h, tasted), 7);
        }
    }

    private static void askQuarrel(int q) {
        Model.Quarrel one = m.quarrels.get(q);
        for (int side = 0; side < 2; side++) {
            Checks.good(x, "quarrel", x.quarrel(q, side), one.side[side]);
            if (!m.houses.get(one.side[side]).gone) {
                Checks.good(x, "share", x.share(q, side), m.share(q, side));
            }
        }
        Checks.good(x, "OVER", x.quarrel(q, 3), one.over ? 1 : 0);
        Checks.good(x, "WAR", x.quarrel(q, 4), one.war);
        Checks.good(x, "chain", x.chain(q), m.chain(q));
        Checks.good(x, "freed", x.freed(q), m.freed(q));
    }

    private static void askSets() {
        Checks.good(x, "peace()", x.peace(), m.peace());
        Checks.good(x, "truce()", x.truce(), m.truce());
        Checks.good(x, "over()", x.over(), m.over());
        Checks.good(x, "hopeless()", x.hopeless(), m.hopeless());
        Checks.good(x, "ghosts()", x.ghosts(), m.ghosts());
        Checks.good(x, "told(9)", x.told(9), m.gone());
        for (int what = 0; what < 3; what++) {
            Checks.good(x, "steps", x.steps(what), m.steps(what));
        }
        Checks.good(x, "most()", x.most(), m.most());
        int set = draw(1 << m.quarrels.size());
        Checks.good(x, "lack", x.lack(set), m.lack(set));
        int h = someStep();
        if (h >= 0) {
            Checks.good(x, "lackAt", x.lackAt(set, h), m.lackAt(set, h));
        }
        int grains = 1 + draw(12);
        maybe("best", x.best(grains), m.best(grains));
        maybe("closest()", x.closest(), m.closest());
        int longest = -1;
        for (int q = 0; q < m.quarrels.size(); q++) {
            if (!m.quarrels.get(q).over && (longest < 0 || m.quarrels.get(q).war > m.quarrels.get(longest).war)) {
                longest = q;
            }
        }
        maybe("longest()", x.longest(), longest);
    }

    private static void askFuture() {
        int nights = draw(draw(2) == 0 ? 61 : 5);
        Model then = m.later(nights);
        int h = someStep();
        if (h >= 0) {
            Checks.good(x, "forecast SALT", x.forecast(h, nights, 0), then.houses.get(h).salt);
            Checks.good(x, "forecast SUGAR", x.forecast(h, nights, 1), then.houses.get(h).sugar);
            Checks.good(x, "forecast SNOW", x.forecast(h, nights, 2), then.houses.get(h).snow);
        }
        int[] soonest = new int[m.quarrels.size()];
        int[] thaw = new int[m.houses.size()];
        int thawAll = -1;
        java.util.Arrays.fill(soonest, -1);
        java.util.Arrays.fill(thaw, -1);
        Model now = m.copy();
        for (int n = 0; n <= 60; n++) {
            boolean snow = false;
            for (int q = 0; q < soonest.length; q++) {
                soonest[q] = soonest[q] < 0 && now.quarrels.get(q).over ? n : soonest[q];
            }
            for (int i = 0; i < thaw.length; i++) {
                thaw[i] = thaw[i] < 0 && now.houses.get(i).snow == 0 ? n : thaw[i];
                snow |= now.houses.get(i).snow > 0;
            }
            thawAll = thawAll < 0 && !snow ? n : thawAll;
            now.night();
        }
        for (int q = 0; q < soonest.length; q++) {
            maybe("soonest", x.soonest(q), soonest[q]);
        }
        if (h >= 0) {
            maybe("thaw", x.thaw(h), thaw[h]);
        }
        maybe("thawAll()", x.thawAll(), thawAll);
    }

    private static void askGrocers() {
        List<Integer> prices = m.prices();
        int n = draw(2) == 0 ? draw(20) : draw(prices.size() + 5);
        int sum = -1;
        if (n <= prices.size()) {
            sum = prices.subList(0, n).stream().mapToInt(i -> i).sum();
        }
        maybe("cost", x.cost(n), sum);
        if (n > 0) {
            maybe("dearest", x.dearest(n), sum < 0 ? -1 : prices.get(n - 1));
        }
        int h = someStep();
        if (h >= 0) {
            int grains = m.houses.get(h).grains();
            int worth = grains <= prices.size() ? prices.subList(0, grains).stream().mapToInt(i -> i).sum() : -1;
            maybe("value", x.value(h), worth);
        }
    }

    private static void askWho() {
        int n = m.houses.size();
        int[] missing = new int[n];
        x.tray(1, 1 + draw(3), n + draw(2));
        for (int h = 0; h < n; h++) {
            missing[h] = m.houses.get(h).gone ? 0 : draw(2) * draw(12);
            x.write(1, h, missing[h]);
        }
        if (draw(4) == 0) {
            int grains = 1 + draw(14);
            maybe("who", x.who(1, grains), m.who(missing, grains));
        }
    }
}
