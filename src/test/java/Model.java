import java.util.ArrayList;
import java.util.List;

/** The document's words, followed one by one, without a thought for room or speed. */
final class Model {
    static final long LOST = Long.MIN_VALUE;

    static final class Wrongdoer {
        final int number;
        int weight;
        boolean broke;
        int paid;
        Unit unit;

        Wrongdoer(int number, int weight) {
            this.number = number;
            this.weight = weight;
        }
    }

    static final class Unit {
        final List<Wrongdoer> members = new ArrayList<>();
        Integer settledFor;

        Unit(Wrongdoer... ones) {
            for (Wrongdoer one : ones) {
                members.add(one);
                one.unit = this;
            }
        }

        int weight() {
            return members.stream().mapToInt(m -> m.weight).sum();
        }

        boolean broke() {
            return members.stream().allMatch(m -> m.broke);
        }

        boolean open() {
            return settledFor == null;
        }
    }

    record Transfer(int giver, int taker, Fraction amount) { }

    private int loss;
    private int claimant;
    private final int[] settings = {0, 0, 100};
    private final Wrongdoer[] ones = new Wrongdoer[6];

    private Model copy() {
        Model other = new Model();
        other.loss = loss;
        other.claimant = claimant;
        System.arraycopy(settings, 0, other.settings, 0, 3);
        for (int w = 0; w < 6; w++) {
            if (ones[w] != null) {
                other.ones[w] = new Wrongdoer(w, ones[w].weight);
                other.ones[w].broke = ones[w].broke;
                other.ones[w].paid = ones[w].paid;
            }
        }
        for (Unit unit : units()) {
            Wrongdoer[] members = unit.members.stream().map(m -> other.ones[m.number]).toArray(Wrongdoer[]::new);
            new Unit(members).settledFor = unit.settledFor;
        }
        return other;
    }

    private Wrongdoer find(int w) {
        return w >= 0 && w < 6 ? ones[w] : null;
    }

    private List<Wrongdoer> all() {
        List<Wrongdoer> list = new ArrayList<>();
        for (Wrongdoer one : ones) {
            if (one != null) {
                list.add(one);
            }
        }
        return list;
    }

    private List<Unit> units() {
        List<Unit> list = new ArrayList<>();
        for (Wrongdoer one : all()) {
            if (!list.contains(one.unit)) {
                list.add(one.unit);
            }
        }
        return list;
    }

    private static boolean in(int v, int least, int most) {
        return v >= least && v <= most;
    }

    // ---- 1 the case

    int loss(int v) {
        if (!in(v, 0, 1000000)) return -2;
        int was = loss;
        loss = v;
        return was;
    }

    int claimant(int v) {
        if (!in(v, 0, 100)) return -2;
        int was = claimant;
        claimant = v;
        return was;
    }

    int wrong(int weight) {
        if (!in(weight, 0, 100)) return -2;
        for (int w = 0; w < 6; w++) {
            if (ones[w] == null) {
                ones[w] = new Wrongdoer(w, weight);
                new Unit(ones[w]);
                return w;
            }
        }
        return -4;
    }

    int leave(int w) {
        Wrongdoer one = find(w);
        if (one == null) return -1;
        for (Wrongdoer other : new ArrayList<>(one.unit.members)) {
            new Unit(other);
        }
        ones[w] = null;
        return all().size();
    }

    int weight(int w, int v) {
        Wrongdoer one = find(w);
        if (one == null) return -1;
        if (!in(v, 0, 100)) return -2;
        int was = one.weight;
        one.weight = v;
        return was;
    }

    int broke(int w, boolean is) {
        Wrongdoer one = find(w);
        if (one == null) return -1;
        if (one.broke == is) return 0;
        one.broke = is;
        return 1;
    }

    int pair(int v, int w) {
        Wrongdoer a = find(v);
        Wrongdoer b = find(w);
        if (a == null || b == null || a == b) return -1;
        if (a.unit.members.size() > 1 || b.unit.members.size() > 1) return -3;
        if (!a.unit.open() || !b.unit.open()) return -3;
        new Unit(a, b);
        return 1;
    }

    int part(int w) {
        Wrongdoer one = find(w);
        if (one == null) return -1;
        if (one.unit.members.size() == 1 || !one.unit.open()) return -3;
        for (Wrongdoer other : new ArrayList<>(one.unit.members)) {
            new Unit(other);
        }
        return 1;
    }

    int settle(int w, int v) {
        Wrongdoer one = find(w);
        if (one == null) return -1;
        if (!in(v, 0, 1000000)) return -2;
        if (!one.unit.open() || one.unit.members.stream().anyMatch(m -> m.paid > 0)) return -3;
        one.unit.settledFor = v;
        return 1;
    }

    int reopen(int w) {
        Wrongdoer one = find(w);
        if (one == null) return -1;
        if (one.unit.open()) return -3;
        int was = one.unit.settledFor;
        one.unit.settledFor = null;
        return was;
    }

    int setting(int k, int v) {
        if (!in(k, 0, 2) || !in(v, 0, k == 2 ? 100 : 2)) return -2;
        int was = settings[k];
        settings[k] = v;
        return was;
    }

    int ofWrong(int w, int what) {
        Wrongdoer one = find(w);
        if (one == null) return -1;
        if (what == 0) return one.weight;
        if (what == 1) return one.broke ? 1 : 0;
        if (what == 2) {
            for (Wrongdoer other : one.unit.members) {
                if (other != one) return other.number;
            }
            return -9;
        }
        if (what == 3) return one.unit.open() ? 0 : 1;
        if (what == 4) return one.unit.open() ? -9 : one.unit.settledFor;
        if (what == 5) return one.paid;
        return -2;
    }

    // ---- 2 what is owed

    private int blame() {
        return claimant + units().stream().mapToInt(Unit::weight).sum();
    }

    private Fraction entitled() {
        int blame = blame();
        if (blame == 0 || 100 * claimant > settings[2] * blame) return Fraction.ZERO;
        return Fraction.of(loss).times(blame - claimant).by(blame);
    }

    private Fraction creditOf(Unit unit) {
        if (unit.open()) return Fraction.ZERO;
        Fraction agreed = Fraction.of(unit.settledFor);
        Fraction byWeight = blame() == 0 ? Fraction.ZERO : Fraction.of(loss).times(unit.weight()).by(blame());
        if (settings[0] == 0) return agreed;
        return settings[0] == 1 ? byWeight : agreed.most(byWeight);
    }

    private Fraction credits() {
        return units().stream().map(this::creditOf).reduce(Fraction.ZERO, Fraction::plus);
    }

    private Fraction rest() {
        return entitled().minus(credits()).most(Fraction.ZERO);
    }

    private static Fraction parted(Fraction amount, int weight, int together) {
        return together == 0 ? Fraction.ZERO : amount.times(weight).by(together);
    }

    private static int weightOf(List<Unit> units) {
        return units.stream().mapToInt(Unit::weight).sum();
    }

    private List<Unit> open() {
        return units().stream().filter(Unit::open).toList();
    }

    private List<Unit> openBroke() {
        return open().stream().filter(Unit::broke).toList();
    }

    private List<Unit> openSolvent() {
        return open().stream().filter(u -> !u.broke()).toList();
    }

    private Fraction brokePart() {
        Fraction sum = Fraction.ZERO;
        for (Unit unit : openBroke()) {
            sum = sum.plus(parted(rest(), unit.weight(), weightOf(open())));
        }
        return sum;
    }

    private Fraction missed() {
        Fraction sum = Fraction.ZERO;
        if (weightOf(open()) == 0) sum = sum.plus(rest());
        Fraction part = brokePart();
        if (settings[1] == 2) return sum.plus(part);
        int together = weightOf(openSolvent()) + (settings[1] == 1 ? claimant : 0);
        if (together == 0) return sum.plus(part);
        return settings[1] == 1 ? sum.plus(parted(part, claimant, together)) : sum;
    }

    private Fraction dueOf(Unit unit) {
        if (!unit.open() || unit.broke()) return Fraction.ZERO;
        Fraction first = parted(rest(), unit.weight(), weightOf(open()));
        if (settings[1] == 2) return first;
        int together = weightOf(openSolvent()) + (settings[1] == 1 ? claimant : 0);
        return first.plus(parted(brokePart(), unit.weight(), together));
    }

    private Fraction dueOf(Wrongdoer one) {
        Fraction all = dueOf(one.unit);
        if (one.unit.members.size() == 1) return all;
        if (one.broke) return Fraction.ZERO;
        for (Wrongdoer other : one.unit.members) {
            if (other != one && other.broke) return all;
        }
        int together = one.unit.weight();
        return together == 0 ? all.by(2) : parted(all, one.weight, together);
    }

    private Fraction dues() {
        return all().stream().map(this::dueOf).reduce(Fraction.ZERO, Fraction::plus);
    }

    private static boolean noWhich(int which) {
        return !in(which, 0, 1);
    }

    long amount(int what, int which) {
        if (noWhich(which) || !in(what, 0, 4)) return LOST;
        Fraction[] all = {entitled(), credits(), rest(), missed(), dues()};
        return all[what].told(which);
    }

    long credit(int w, int which) {
        return find(w) == null || noWhich(which) ? LOST : creditOf(find(w).unit).told(which);
    }

    long unitDue(int w, int which) {
        return find(w) == null || noWhich(which) ? LOST : dueOf(find(w).unit).told(which);
    }

    long due(int w, int which) {
        return find(w) == null || noWhich(which) ? LOST : dueOf(find(w)).told(which);
    }

    private Fraction getsBy(int manner, int spread) {
        Model other = copy();
        other.settings[0] = manner;
        other.settings[1] = spread;
        Fraction sum = other.dues();
        for (Unit unit : other.units()) {
            if (!unit.open()) sum = sum.plus(Fraction.of(unit.settledFor));
        }
        return sum;
    }

    long gets(int manner, int spread, int which) {
        if (!in(manner, 0, 2) || !in(spread, 0, 2) || noWhich(which)) return LOST;
        return getsBy(manner, spread).told(which);
    }

    int bestManner() {
        int best = 0;
        for (int manner = 1; manner < 3; manner++) {
            if (getsBy(manner, settings[1]).isMoreThan(getsBy(best, settings[1]))) best = manner;
        }
        return best;
    }

    private Fraction costs(int w, Integer settledFor) {
        Model other = copy();
        Unit unit = other.find(w).unit;
        unit.settledFor = settledFor;
        return other.dueOf(unit).plus(Fraction.of(settledFor == null ? 0 : settledFor));
    }

    long saves(int w, int v, int which) {
        if (find(w) == null || !in(v, 0, 1000000) || noWhich(which)) return LOST;
        return costs(w, null).minus(costs(w, v)).told(which);
    }

    private Fraction missedIf(int w, boolean broke) {
        Model other = copy();
        other.find(w).broke = broke;
        return other.missed();
    }

    long misses(int w, int which) {
        if (find(w) == null || noWhich(which)) return LOST;
        return missedIf(w, true).minus(missedIf(w, false)).told(which);
    }

    int owe() {
        int set = 0;
        for (Wrongdoer one : all()) {
            if (one.unit.open() && !one.broke && dueOf(one).sign() > 0) set |= 1 << one.number;
        }
        return set;
    }

    // ---- 3 what was paid

    private int allPaid() {
        return all().stream().mapToInt(m -> m.paid).sum();
    }

    int pay(int w, int v) {
        Wrongdoer one = find(w);
        if (one == null) return -1;
        if (!in(v, 1, 1000000)) return -2;
        if (one.broke || !one.unit.open()) return -3;
        if (Fraction.of(allPaid() + v).isMoreThan(dues())) return -3;
        one.paid += v;
        return one.paid;
    }

    int refund(int w) {
        Wrongdoer one = find(w);
        if (one == null) return -1;
        if (one.paid == 0) return -3;
        int was = one.paid;
        one.paid = 0;
        return was;
    }

    private Fraction fairOf(Wrongdoer one) {
        Fraction dues = dues();
        return dues.sign() == 0 ? Fraction.ZERO : Fraction.of(allPaid()).times(dueOf(one)).by(dues);
    }

    private Fraction overOf(Wrongdoer one) {
        return Fraction.of(one.paid).minus(fairOf(one));
    }

    long fair(int w, int which) {
        return find(w) == null || noWhich(which) ? LOST : fairOf(find(w)).told(which);
    }

    long over(int w, int which) {
        return find(w) == null || noWhich(which) ? LOST : overOf(find(w)).told(which);
    }

    private List<Transfer> list() {
        List<Integer> givers = new ArrayList<>();
        List<Integer> takers = new ArrayList<>();
        Fraction[] overs = new Fraction[6];
        for (Wrongdoer one : all()) {
            overs[one.number] = overOf(one);
            if (overs[one.number].sign() < 0) givers.add(one.number);
            if (overs[one.number].sign() > 0) takers.add(one.number);
        }
        List<Transfer> list = new ArrayList<>();
        while (!givers.isEmpty() && !takers.isEmpty()) {
            int giver = givers.get(0);
            int taker = takers.get(0);
            Fraction gift = Fraction.ZERO.minus(overs[giver]).least(overs[taker]);
            list.add(new Transfer(giver, taker, gift));
            overs[giver] = overs[giver].plus(gift);
            overs[taker] = overs[taker].minus(gift);
            if (overs[giver].sign() == 0) givers.remove(0);
            if (overs[taker].sign() == 0) takers.remove(0);
        }
        return list;
    }

    int transfers() {
        return list().size();
    }

    int transfer(int k, int what) {
        if (k < 0 || noWhich(what)) return -2;
        List<Transfer> list = list();
        if (k >= list.size()) return -9;
        return what == 0 ? list.get(k).giver() : list.get(k).taker();
    }

    long given(int k, int which) {
        if (k < 0 || noWhich(which)) return LOST;
        List<Transfer> list = list();
        return k >= list.size() ? LOST : list.get(k).amount().told(which);
    }

    int many(int what) {
        if (what == 0) return all().size();
        if (what == 1) return units().size();
        if (what == 2) return units().size() - open().size();
        if (what == 3) return openBroke().size();
        if (what == 4) return blame();
        if (what == 5) return allPaid();
        return -2;
    }
}
