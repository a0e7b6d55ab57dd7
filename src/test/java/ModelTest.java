import java.util.ArrayList;
import java.util.Arrays;
import java.util.List;
import java.util.Random;
import java.util.TreeMap;
import java.util.TreeSet;
import java.util.regex.Matcher;
import java.util.regex.Pattern;

/**
 * Long runs of calls, drawn by a seed, against a slow model: one that asks the document's words each
 * time anew, by recursion and by trying everything, and keeps nothing that can be worked out.
 */
public final class ModelTest {
    private static final int NONE = -1, GAP = -2, UNKNOWN = -101, OUTSIDE = -102, STATE = -103, FULL = -104;
    private static final String RULES = "fmgp";
    private static final int RUNS = 1000, CALLS = 511;

    private record Person(int kind, int sex, int father, int mother) {
        boolean hasParents() {
            return kind != 1 && kind != 3;
        }
    }

    private record Law(int first, int every, int second, int twins) { }

    /** What an image keeps. */
    private static final class Kept {
        List<Person> people = new ArrayList<>();
        List<Integer> told = new ArrayList<>();
        List<Integer> written = new ArrayList<>();
        List<Boolean> alive = new ArrayList<>();

        Kept copy() {
            Kept k = new Kept();
            k.people.addAll(people);
            k.told.addAll(told);
            k.written.addAll(written);
            k.alive.addAll(alive);
            return k;
        }
    }

    /** A world in which every father is known, told names are given, and a law holds. */
    private static final class World {
        final List<Person> people;
        final int[] fathers;
        final List<Integer> told;
        final Law law;

        World(List<Person> people, int[] fathers, List<Integer> told, Law law) {
            this.people = people;
            this.fathers = fathers;
            this.told = told;
            this.law = law;
        }

        int name(int i) {
            Person p = people.get(i);
            if (!p.hasParents()) return told.get(i);
            if (p.kind == 2) return byRule(law.twins, i);
            if (p.kind == 4) {
                for (int j = 0; j < i; j++) {
                    boolean sibling = people.get(j).hasParents() && fathers[j] == fathers[i];
                    if (sibling && name(j) == name(fathers[i])) return byRule(law.twins, i);
                }
                return name(fathers[i]);
            }
            int name = byRule(law.first, i);
            if (law.every == 0) return name;
            int row = 1;
            for (int f = fathers[i]; f != NONE && name(f) == name; f = fathers[f]) row++;
            return row < law.every ? name : byRule(law.second, i);
        }

        private int byRule(int rule, int i) {
            int mother = people.get(i).mother;
            switch (RULES.charAt(rule)) {
                case 'f': return name(fathers[i]);
                case 'm': return name(mother);
                case 'g': return name(people.get(mother).hasParents() ? people.get(mother).mother : mother);
                default: return name(people.get(fathers[i]).hasParents() ? people.get(fathers[i]).mother : fathers[i]);
            }
        }

        int errors(List<Integer> written) {
            int n = 0;
            for (int i = 0; i < people.size(); i++) {
                if (written.get(i) != NONE && written.get(i) != name(i)) n++;
            }
            return n;
        }
    }

    private static final class Model {
        String page = "";
        Law law = new Law(0, 3, 2, 1);
        int read = 0;
        int mends = 0;
        Kept now = new Kept();
        Kept image = null;

        private boolean has(int i) {
            return i >= 0 && i < now.people.size();
        }

        private int leastMan(int ahead) {
            for (int i = 0; i < ahead; i++) if (now.people.get(i).sex == 0) return i;
            return NONE;
        }

        private int[] fathers() {
            int[] f = new int[now.people.size()];
            for (int i = 0; i < f.length; i++) {
                int told = now.people.get(i).father;
                f[i] = told == GAP ? leastMan(i) : told;
            }
            return f;
        }

        private World world() {
            return new World(now.people, fathers(), now.told, law);
        }

        int letters(long w) {
            StringBuilder more = new StringBuilder();
            boolean ended = false;
            for (long rest = w; rest != 0; rest >>>= 8) {
                int code = (int) (rest & 0xff);
                if (code == 0) ended = true;
                else if (ended) return OUTSIDE;
                else if (code > 126) return OUTSIDE;
                else more.append((char) code);
            }
            if (page.length() + more.length() > 16) return FULL;
            page += more;
            return page.length();
        }

        int blank() {
            int n = page.length();
            page = "";
            return n;
        }

        private static TreeSet<String> allLaws() {
            TreeSet<String> heads = new TreeSet<>();
            for (char a : RULES.toCharArray()) {
                heads.add("" + a);
                for (char e = '2'; e <= '5'; e++) for (char b : RULES.toCharArray()) heads.add("" + a + e + b);
            }
            TreeSet<String> all = new TreeSet<>(heads);
            for (String head : heads) for (char t : RULES.toCharArray()) all.add(head + "t" + t);
            return all;
        }

        int fault() {
            for (int n = 1; n <= page.length(); n++) {
                String ahead = page.substring(0, n);
                boolean some = false;
                for (String l : allLaws()) some |= l.startsWith(ahead);
                if (!some) return n - 1;
            }
            return page.length();
        }

        int law() {
            Matcher m = Pattern.compile("([fmgp])(?:([2-5])([fmgp]))?(?:t([fmgp]))?").matcher(page);
            if (!m.matches()) return STATE;
            law = new Law(RULES.indexOf(m.group(1)), m.group(2) == null ? 0 : Integer.parseInt(m.group(2)),
                m.group(3) == null ? NONE : RULES.indexOf(m.group(3)), m.group(4) == null ? 1 : RULES.indexOf(m.group(4)));
            page = "";
            return ++read;
        }

        int lawTold(int what) {
            int[] all = {law.first, law.every, law.second, law.twins};
            return what < 0 || what > 3 ? OUTSIDE : all[what];
        }

        int person(int kind, int sex, int father, int mother, int name) {
            if (kind < 0 || kind > 4) return OUTSIDE;
            if (sex < 0 || sex > 1) return OUTSIDE;
            Person p = new Person(kind, sex, father, mother);
            if (p.hasParents()) {
                boolean fatherFits = father == GAP ? leastMan(now.people.size()) != NONE
                    : has(father) && now.people.get(father).sex == 0;
                if (!fatherFits || !has(mother) || now.people.get(mother).sex != 1) return UNKNOWN;
                if (name != 0) return OUTSIDE;
            } else {
                if (father != NONE || mother != NONE) return UNKNOWN;
                if (name < 0 || name > 5) return OUTSIDE;
            }
            if (now.people.size() == 12) return FULL;
            if (father == GAP && count(1) == 3) return FULL;
            now.people.add(p);
            now.told.add(name);
            now.written.add(NONE);
            now.alive.add(true);
            return now.people.size() - 1;
        }

        private int generation(int i) {
            Person p = now.people.get(i);
            return p.hasParents() ? 1 + Math.max(generation(fathers()[i]), generation(p.mother)) : 0;
        }

        int about(int i, int what) {
            if (!has(i)) return UNKNOWN;
            Person p = now.people.get(i);
            if (what == 0) return p.kind;
            if (what == 1) return p.sex;
            if (what == 2) return p.father;
            if (what == 3) return p.mother;
            if (what == 4) return world().name(i);
            if (what == 5) return now.written.get(i);
            if (what == 6) return now.alive.get(i) ? 1 : 0;
            if (what == 7) return generation(i);
            return OUTSIDE;
        }

        int as(int i, int kind) {
            if (!has(i)) return UNKNOWN;
            if (kind < 0 || kind > 4) return OUTSIDE;
            List<List<Integer>> kinds = List.of(List.of(0), List.of(0, 1), List.of(0, 2), List.of(0, 3), List.of(0, 2, 4));
            return kinds.get(now.people.get(i).kind).contains(kind) ? i : NONE;
        }

        int call(int i, int v) {
            if (!has(i)) return UNKNOWN;
            if (now.people.get(i).hasParents()) return STATE;
            if (v < 0 || v > 5) return OUTSIDE;
            return now.told.set(i, v);
        }

        int write(int i, int v) {
            if (!has(i)) return UNKNOWN;
            if (v < -1 || v > 5) return OUTSIDE;
            return now.written.set(i, v);
        }

        int dies(int i) {
            if (!has(i)) return UNKNOWN;
            if (!now.alive.get(i)) return STATE;
            now.alive.set(i, false);
            return count(2);
        }

        int wrong(int what) {
            if (what == 0) return world().errors(now.written);
            if (what != 1) return OUTSIDE;
            World w = world();
            for (int i = 0; i < now.people.size(); i++) {
                if (now.written.get(i) != NONE && now.written.get(i) != w.name(i)) return i;
            }
            return NONE;
        }

        int mended(int what) {
            if (what < 0 || what > 4) return OUTSIDE;
            List<Integer> founders = new ArrayList<>();
            for (int i = 0; i < now.people.size(); i++) if (!now.people.get(i).hasParents()) founders.add(i);
            if (founders.size() > 4 || mends == 40) return STATE;
            mends++;
            int[] best = {Integer.MAX_VALUE, NONE, NONE, NONE, NONE};
            tryNames(founders, 0, new ArrayList<>(now.told), best);
            return best[what];
        }

        private void tryNames(List<Integer> founders, int k, List<Integer> told, int[] best) {
            if (k == founders.size()) {
                int errors = new World(now.people, fathers(), told, law).errors(now.written);
                if (errors < best[0]) {
                    best[0] = errors;
                    for (int j = 0; j < k; j++) best[j + 1] = told.get(founders.get(j));
                }
                return;
            }
            for (int name = 0; name < 6; name++) {
                told.set(founders.get(k), name);
                tryNames(founders, k + 1, told, best);
            }
        }

        private List<int[]> waysFrom(int i, int[] fathers) {
            List<int[]> found = new ArrayList<>();
            if (i == now.people.size()) {
                if (new World(now.people, fathers, now.told, law).errors(now.written) == 0) found.add(fathers);
                return found;
            }
            if (now.people.get(i).father != GAP) return waysFrom(i + 1, fathers);
            for (int man = 0; man < i; man++) {
                if (now.people.get(man).sex != 0) continue;
                int[] more = fathers.clone();
                more[i] = man;
                found.addAll(waysFrom(i + 1, more));
            }
            return found;
        }

        int ways() {
            return waysFrom(0, fathers()).size();
        }

        int sure(int i) {
            if (!has(i)) return UNKNOWN;
            TreeSet<Integer> all = new TreeSet<>();
            for (int[] way : waysFrom(0, fathers())) all.add(way[i]);
            return all.size() == 1 ? all.first() : NONE;
        }

        int laws(int what) {
            if (what < 0 || what > 3) return OUTSIDE;
            List<Law> all = new ArrayList<>();
            for (int a = 0; a < 4; a++) all.add(new Law(a, 0, NONE, law.twins));
            for (int a = 0; a < 4; a++) {
                for (int e = 2; e < 6; e++) {
                    for (int b = 0; b < 4; b++) all.add(new Law(a, e, b, law.twins));
                }
            }
            all.removeIf(l -> new World(now.people, fathers(), now.told, l).errors(now.written) != 0);
            if (what == 0) return all.size();
            if (all.isEmpty()) return NONE;
            Law l = all.get(0);
            return what == 1 ? l.first : what == 2 ? l.every : l.second;
        }

        private void climb(int i, int steps, TreeMap<Integer, Integer> seen) {
            seen.merge(i, steps, Math::min);
            if (!now.people.get(i).hasParents()) return;
            climb(fathers()[i], steps + 1, seen);
            climb(now.people.get(i).mother, steps + 1, seen);
        }

        int near(int a, int b) {
            if (!has(a) || !has(b)) return UNKNOWN;
            TreeMap<Integer, Integer> ofA = new TreeMap<>();
            TreeMap<Integer, Integer> ofB = new TreeMap<>();
            climb(a, 0, ofA);
            climb(b, 0, ofB);
            int best = Integer.MAX_VALUE;
            for (int i : ofA.keySet()) if (ofB.containsKey(i)) best = Math.min(best, ofA.get(i) + ofB.get(i));
            return best == Integer.MAX_VALUE ? NONE : best;
        }

        int kin(int i) {
            if (!has(i)) return UNKNOWN;
            for (int d = 1; d < 30; d++) {
                for (int j = 0; j < now.people.size(); j++) {
                    if (j != i && now.alive.get(j) && near(i, j) == d) return j;
                }
            }
            return NONE;
        }

        int may(int a, int b) {
            if (!has(a) || !has(b)) return UNKNOWN;
            if (now.people.get(a).sex + now.people.get(b).sex != 1) return 0;
            if (!now.alive.get(a) || !now.alive.get(b)) return 0;
            World w = world();
            if (w.name(a) == w.name(b)) return 0;
            int d = near(a, b);
            return d >= 0 && d <= 3 ? 0 : 1;
        }

        /** All ways to wed, men by number, the least woman first and nobody last: the first of the most. */
        private void wed(int i, int[] spouse, boolean[][] may, int n, int[][] best) {
            if (i == spouse.length) {
                if (best[0] == null || n > best[1][0]) {
                    best[0] = spouse.clone();
                    best[1][0] = n;
                }
                return;
            }
            for (int j = 0; j < spouse.length && now.people.get(i).sex == 0; j++) {
                if (!may[i][j] || spouse[j] != NONE) continue;
                spouse[i] = j;
                spouse[j] = i;
                wed(i + 1, spouse, may, n + 1, best);
                spouse[i] = NONE;
                spouse[j] = NONE;
            }
            wed(i + 1, spouse, may, n, best);
        }

        private int[] spouses() {
            int size = now.people.size();
            boolean[][] may = new boolean[size][size];
            for (int a = 0; a < size; a++) for (int b = 0; b < size; b++) may[a][b] = may(a, b) == 1;
            int[] spouse = new int[size];
            Arrays.fill(spouse, NONE);
            int[][] best = {null, {0}};
            wed(0, spouse, may, 0, best);
            return best[0];
        }

        int couples(int what) {
            if (what != 0 && (what < 10 || what > 21)) return OUTSIDE;
            int[] spouse = spouses();
            if (what == 0) return (int) Arrays.stream(spouse).filter(s -> s != NONE).count() / 2;
            return what - 10 < spouse.length ? spouse[what - 10] : NONE;
        }

        int lasts(int name) {
            if (name < 0 || name > 5) return UNKNOWN;
            TreeSet<Integer> in = new TreeSet<>();
            World w = world();
            for (int i = 0; i < now.people.size(); i++) if (w.name(i) == name) in.add(generation(i));
            return in.size();
        }

        int image() {
            image = now.copy();
            return now.people.size();
        }

        int restore() {
            if (image == null) return STATE;
            now = image.copy();
            return now.people.size();
        }

        int count(int what) {
            switch (what) {
                case 0: return now.people.size();
                case 1: return (int) now.people.stream().filter(p -> p.father == GAP).count();
                case 2: return (int) now.alive.stream().filter(a -> a).count();
                case 3: return (int) now.written.stream().filter(v -> v != NONE).count();
                case 4: return page.length();
                case 5: return read;
                case 6: return mends;
                default: return OUTSIDE;
            }
        }

        long digest() {
            List<Integer> all = new ArrayList<>();
            for (int k = 0; k < 4; k++) all.add(lawTold(k));
            int[] spouse = spouses();
            for (int i = 0; i < now.people.size(); i++) {
                for (int k = 0; k < 8; k++) all.add(about(i, k));
                all.add(kin(i));
                all.add(sure(i));
                all.add(spouse[i]);
            }
            for (int k = 0; k < 2; k++) all.add(wrong(k));
            all.add(ways());
            for (int k = 0; k < 4; k++) all.add(laws(k));
            for (int k = 0; k < 6; k++) all.add(lasts(k));
            for (char c : page.toCharArray()) all.add((int) c);
            for (int k = 0; k < 7; k++) all.add(count(k));
            long h = 601;
            for (int n : all) h = 31 * h + n;
            return h;
        }
    }

    /** Draws a run's calls; how often what is drawn differs from run to run, so that runs differ in kind. */
    private static final class Draw {
        final Random random;
        final int wildness;
        final int truth;

        Draw(long seed) {
            random = new Random(seed);
            wildness = 3 + random.nextInt(40);
            truth = random.nextInt(101);
        }

        int below(int n) {
            return random.nextInt(n);
        }

        int wild() {
            int[] odd = {Integer.MIN_VALUE, Integer.MAX_VALUE, -1, -2, -3, 5, 6, 7, 8, 12, 13, 22, 4, -101};
            return odd[below(odd.length)];
        }

        int number(int n) {
            return below(wildness) == 0 ? wild() : below(Math.max(1, n));
        }

        long word() {
            int way = below(8);
            if (way == 0) return random.nextLong();
            if (way == 1) return (long) below(256) << 8 * below(8);
            String signs = "fmgp2345tfmgpt16 ";
            StringBuilder text = new StringBuilder();
            if (way > 3) {
                text.append(RULES.charAt(below(4)));
                if (below(3) > 0) text.append((char) ('2' + below(4))).append(RULES.charAt(below(4)));
                if (below(2) > 0) text.append('t').append(RULES.charAt(below(4)));
            } else {
                for (int n = below(9); n > 0; n--) text.append(signs.charAt(below(signs.length())));
            }
            long w = 0;
            for (int i = text.length() - 1; i >= 0; i--) w = w << 8 | text.charAt(i);
            return w;
        }
    }

    private static final TreeMap<String, Integer> ANSWERED = new TreeMap<>();
    private static int failures = 0;

    private static void due(int run, int at, String call, long got, long want) {
        if (got != want) {
            failures++;
            System.out.println("run " + run + ", call " + at + ": " + call + " answered " + got + ", due is " + want);
        }
        String name = call.substring(0, call.indexOf('('));
        ANSWERED.merge(name + (want <= UNKNOWN && want >= FULL ? " " + want : ""), 1, Integer::sum);
    }

    private static void person(Draw d, OtherName x, Model m, int run, int at) {
        int size = m.now.people.size();
        int kind = d.number(5);
        boolean founder = kind == 1 || kind == 3;
        if (size > 1 && founder && d.below(3) > 0) {
            kind = kind == 1 ? 0 : 4;
            founder = false;
        }
        int sex = d.number(2);
        int father = founder ? NONE : aboutOfSex(d, m, 0);
        if (!founder && d.below(3) == 0) father = GAP;
        int mother = founder ? NONE : aboutOfSex(d, m, 1);
        if (d.below(d.wildness) == 0) mother = d.wild();
        int name = founder ? d.number(6) : d.below(d.wildness) == 0 ? d.wild() : 0;
        due(run, at, "person(" + kind + ", " + sex + ", " + father + ", " + mother + ", " + name + ")",
            x.person(kind, sex, father, mother, name), m.person(kind, sex, father, mother, name));
    }

    private static int aboutOfSex(Draw d, Model m, int sex) {
        int last = NONE;
        for (int tries = 0; tries < 6; tries++) {
            last = d.number(m.now.people.size());
            if (m.has(last) && m.now.people.get(last).sex == sex) return last;
        }
        return last;
    }

    private static void write(Draw d, OtherName x, Model m, int run, int at) {
        int i = d.number(m.now.people.size());
        int v = d.below(4) == 0 ? NONE : d.number(6);
        if (m.has(i) && d.below(100) < d.truth) {
            // As it would be, were the fathers behind the gaps some men or other.
            int[] fathers = m.fathers();
            for (int j = 0; j < fathers.length; j++) {
                if (m.now.people.get(j).father != GAP) continue;
                int man = d.below(j);
                if (m.now.people.get(man).sex == 0) fathers[j] = man;
            }
            v = new World(m.now.people, fathers, m.now.told, m.law).name(i);
        }
        due(run, at, "write(" + i + ", " + v + ")", x.write(i, v), m.write(i, v));
    }

    private static void one(Draw d, OtherName x, Model m, int run, int at) {
        int size = m.now.people.size();
        int i = d.number(size);
        int j = d.number(size);
        int what;
        switch (d.below(34)) {
            case 0: {
                long w = d.word();
                due(run, at, "letters(" + w + ")", x.letters(w), m.letters(w));
                break;
            }
            case 1: if (d.below(3) > 0) due(run, at, "blank()", x.blank(), m.blank()); break;
            case 2: due(run, at, "fault()", x.fault(), m.fault()); break;
            case 3: due(run, at, "law()", x.law(), m.law()); break;
            case 4: what = d.number(4); due(run, at, "lawTold(" + what + ")", x.lawTold(what), m.lawTold(what)); break;
            case 5: case 6: case 7: person(d, x, m, run, at); break;
            case 8: case 9: what = d.number(8); due(run, at, "about(" + i + ", " + what + ")", x.about(i, what), m.about(i, what)); break;
            case 10: what = d.number(5); due(run, at, "as(" + i + ", " + what + ")", x.as(i, what), m.as(i, what)); break;
            case 11: what = d.number(6); due(run, at, "call(" + i + ", " + what + ")", x.call(i, what), m.call(i, what)); break;
            case 12: case 13: case 14: write(d, x, m, run, at); break;
            case 15: if (d.below(2) == 0) due(run, at, "dies(" + i + ")", x.dies(i), m.dies(i)); break;
            case 16: what = d.number(2); due(run, at, "wrong(" + what + ")", x.wrong(what), m.wrong(what)); break;
            case 17: case 18: what = d.number(5); due(run, at, "mended(" + what + ")", x.mended(what), m.mended(what)); break;
            case 19: due(run, at, "ways()", x.ways(), m.ways()); break;
            case 20: due(run, at, "sure(" + i + ")", x.sure(i), m.sure(i)); break;
            case 21: what = d.number(4); due(run, at, "laws(" + what + ")", x.laws(what), m.laws(what)); break;
            case 22: due(run, at, "near(" + i + ", " + j + ")", x.near(i, j), m.near(i, j)); break;
            case 23: due(run, at, "kin(" + i + ")", x.kin(i), m.kin(i)); break;
            case 24: due(run, at, "may(" + i + ", " + j + ")", x.may(i, j), m.may(i, j)); break;
            case 25: what = d.below(3) == 0 ? 0 : 10 + d.number(12); due(run, at, "couples(" + what + ")", x.couples(what), m.couples(what)); break;
            case 26: what = d.number(6); due(run, at, "lasts(" + what + ")", x.lasts(what), m.lasts(what)); break;
            case 27: due(run, at, "image()", x.image(), m.image()); break;
            case 28: if (d.below(2) == 0) due(run, at, "restore()", x.restore(), m.restore()); break;
            case 29: what = d.number(7); due(run, at, "count(" + what + ")", x.count(what), m.count(what)); break;
            case 30: if (d.below(4) == 0) due(run, at, "digest()", x.digest(), m.digest()); break;
            default: person(d, x, m, run, at); break;
        }
    }

    public static void main(String[] args) {
        int runs = args.length > 0 ? Integer.parseInt(args[0]) : RUNS;
        for (int run = 0; run < runs && failures < 20; run++) {
            Draw d = new Draw(run);
            OtherName x = new OtherName();
            Model m = new Model();
            for (int at = 0; at < CALLS && failures < 20; at++) one(d, x, m, run, at);
            due(run, CALLS, "digest()", x.digest(), m.digest());
        }
        if (args.length > 0) System.out.println(ANSWERED);
        System.out.println(failures == 0 ? "all runs are as the model" : failures + " answers are not as the model's");
        if (failures != 0) System.exit(1);
    }
}
