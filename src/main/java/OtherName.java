/**
 * People of kinds with parents, named by a law that is a text: what they are called, what a
 * register with holes and errors tells of them, and who is near to whom.
 */
public final class OtherName {
    public static final int NONE = -1, GAP = -2, UNKNOWN = -101, OUTSIDE = -102, STATE = -103, FULL = -104;

    private static final int PEOPLE_MOST = 12;
    private static final int GAPS_MOST = 3;
    private static final int FOUNDERS_MOST = 4;
    private static final int NAMES = 6;
    private static final int LETTERS_MOST = 16;
    private static final int MENDINGS_MOST = 40;
    private static final int TOO_NEAR = 3;

    private static final int CHILD = 0, FIRST = 1, TWIN = 2, FOUNDLING = 3, HEIR = 4;
    private static final int MAN = 0, WOMAN = 1;
    private static final int BY_FATHER = 0, BY_MOTHER = 1, BY_MOTHERS_MOTHER = 2, BY_FATHERS_MOTHER = 3;
    private static final int RULES = 4;
    private static final int EVERY_LEAST = 2, EVERY_MOST = 5;

    private final Page page;
    private final Law theLaw;
    private final Folk folk;
    private final Names names;
    private final Mending mending;
    private final Guessing guessing;
    private final LawSearch lawSearch;
    private final Couples pairs;
    private final Image kept;
    private int lawsRead;
    private int mendings;

    public OtherName() {
        page = new Page();
        theLaw = new Law(BY_FATHER, 3, BY_MOTHERS_MOTHER, BY_MOTHER);
        folk = new Folk();
        names = new Names(folk);
        // Trials share rows of their own, so that they leave the true NAMES as they are.
        Names trial = new Names(folk);
        mending = new Mending(folk, trial);
        guessing = new Guessing(folk, trial);
        lawSearch = new LawSearch(folk, trial);
        pairs = new Couples(folk, names);
        kept = new Image();
    }

    // ---- the law

    public int letters(long w) {
        int more = 0;
        boolean ended = false;
        for (int i = 0; i < 8; i++) {
            int code = byteOf(w, i);
            if (code == 0) {
                ended = true;
            } else if (ended || code > 126) {
                return OUTSIDE;
            } else {
                more++;
            }
        }
        if (page.length + more > LETTERS_MOST) {
            return FULL;
        }
        for (int i = 0; i < more; i++) {
            page.add(byteOf(w, i));
        }
        return page.length;
    }

    public int blank() {
        int had = page.length;
        page.length = 0;
        return had;
    }

    public int fault() {
        return page.firstFault();
    }

    public int law() {
        if (!page.isLaw()) {
            return STATE;
        }
        page.readInto(theLaw);
        page.length = 0;
        lawsRead++;
        nameAll();
        return lawsRead;
    }

    public int lawTold(int what) {
        switch (what) {
            case 0: return theLaw.first;
            case 1: return theLaw.every;
            case 2: return theLaw.second;
            case 3: return theLaw.twins;
            default: return OUTSIDE;
        }
    }

    // ---- people

    public int person(int kind, int sex, int father, int mother, int name) {
        if (!isKind(kind) || (sex != MAN && sex != WOMAN)) {
            return OUTSIDE;
        }
        boolean founder = kind == FIRST || kind == FOUNDLING;
        boolean parentsFit = founder ? father == NONE && mother == NONE
                : folk.fitsAsFather(father) && folk.isOfSex(mother, WOMAN);
        if (!parentsFit) {
            return UNKNOWN;
        }
        if (founder ? !isName(name) : name != 0) {
            return OUTSIDE;
        }
        if (folk.size >= PEOPLE_MOST || (father == GAP && folk.gaps() >= GAPS_MOST)) {
            return FULL;
        }
        int number = folk.add(kind, sex, father, mother, name);
        nameAll();
        return number;
    }

    public int about(int person, int what) {
        if (!folk.has(person)) {
            return UNKNOWN;
        }
        switch (what) {
            case 0: return folk.kind[person];
            case 1: return folk.sex[person];
            case 2: return folk.gap[person] ? GAP : folk.father[person];
            case 3: return folk.mother[person];
            case 4: return names.of[person];
            case 5: return folk.written[person];
            case 6: return folk.alive[person] ? 1 : 0;
            case 7: return folk.generation[person];
            default: return OUTSIDE;
        }
    }

    public int as(int person, int kind) {
        if (!folk.has(person)) {
            return UNKNOWN;
        }
        if (!isKind(kind)) {
            return OUTSIDE;
        }
        int own = folk.kind[person];
        boolean such = kind == CHILD || kind == own || (kind == TWIN && own == HEIR);
        return such ? person : NONE;
    }

    public int call(int person, int v) {
        if (!folk.has(person)) {
            return UNKNOWN;
        }
        if (!folk.isFounder(person)) {
            return STATE;
        }
        if (!isName(v)) {
            return OUTSIDE;
        }
        int was = folk.told[person];
        folk.told[person] = v;
        nameAll();
        return was;
    }

    public int write(int person, int v) {
        if (!folk.has(person)) {
            return UNKNOWN;
        }
        if (v != NONE && !isName(v)) {
            return OUTSIDE;
        }
        int was = folk.written[person];
        folk.written[person] = v;
        return was;
    }

    public int dies(int person) {
        if (!folk.has(person)) {
            return UNKNOWN;
        }
        if (!folk.alive[person]) {
            return STATE;
        }
        folk.alive[person] = false;
        return folk.living();
    }

    // ---- the register

    public int wrong(int what) {
        switch (what) {
            case 0: return names.errors();
            case 1: return names.firstError();
            default: return OUTSIDE;
        }
    }

    public int mended(int what) {
        if (what < 0 || what > FOUNDERS_MOST) {
            return OUTSIDE;
        }
        if (folk.founders() > FOUNDERS_MOST || mendings >= MENDINGS_MOST) {
            return STATE;
        }
        mendings++;
        mending.search(theLaw);
        return what == 0 ? mending.fewest : mending.nameOfFounder(what - 1);
    }

    public int ways() {
        guessing.search(theLaw);
        return guessing.found;
    }

    public int sure(int person) {
        if (!folk.has(person)) {
            return UNKNOWN;
        }
        guessing.search(theLaw);
        return guessing.certain[person];
    }

    public int laws(int what) {
        if (what < 0 || what > 3) {
            return OUTSIDE;
        }
        lawSearch.search(theLaw.twins);
        return lawSearch.tells(what);
    }

    // ---- kin

    public int near(int a, int b) {
        if (!folk.has(a) || !folk.has(b)) {
            return UNKNOWN;
        }
        return folk.distance(a, b);
    }

    public int kin(int person) {
        if (!folk.has(person)) {
            return UNKNOWN;
        }
        return folk.nearestLiving(person);
    }

    public int may(int a, int b) {
        if (!folk.has(a) || !folk.has(b)) {
            return UNKNOWN;
        }
        return pairs.allowed(a, b) ? 1 : 0;
    }

    public int couples(int what) {
        boolean ofOne = what >= 10 && what < 10 + PEOPLE_MOST;
        if (what != 0 && !ofOne) {
            return OUTSIDE;
        }
        pairs.wedAll();
        return what == 0 ? pairs.most : pairs.spouse[what - 10];
    }

    public int lasts(int name) {
        return isName(name) ? generationsOf(name) : UNKNOWN;
    }

    // ---- what is told

    public int image() {
        kept.keep(folk);
        return folk.size;
    }

    public int restore() {
        if (!kept.there) {
            return STATE;
        }
        kept.giveBack(folk);
        nameAll();
        return folk.size;
    }

    public int count(int what) {
        switch (what) {
            case 0: return folk.size;
            case 1: return folk.gaps();
            case 2: return folk.living();
            case 3: return folk.entries();
            case 4: return page.length;
            case 5: return lawsRead;
            case 6: return mendings;
            default: return OUTSIDE;
        }
    }

    public long digest() {
        guessing.search(theLaw);
        lawSearch.search(theLaw.twins);
        pairs.wedAll();
        long h = 601;
        for (int what = 0; what < 4; what++) {
            h = 31 * h + lawTold(what);
        }
        for (int i = 0; i < folk.size; i++) {
            h = digestOfPerson(h, i);
        }
        h = 31 * h + names.errors();
        h = 31 * h + names.firstError();
        h = 31 * h + guessing.found;
        for (int what = 0; what < 4; what++) {
            h = 31 * h + lawSearch.tells(what);
        }
        for (int name = 0; name < NAMES; name++) {
            h = 31 * h + generationsOf(name);
        }
        for (int i = 0; i < page.length; i++) {
            h = 31 * h + page.codes[i];
        }
        for (int what = 0; what < 7; what++) {
            h = 31 * h + count(what);
        }
        return h;
    }

    /** Needs what the searches for fathers and couples have found. */
    private long digestOfPerson(long before, int person) {
        long h = before;
        for (int what = 0; what < 8; what++) {
            h = 31 * h + about(person, what);
        }
        h = 31 * h + folk.nearestLiving(person);
        h = 31 * h + guessing.certain[person];
        return 31 * h + pairs.spouse[person];
    }

    /** To be done whenever THE LAW, the PEOPLE or a NAME that is told has changed. */
    private void nameAll() {
        names.give(folk.father, folk.told, theLaw);
    }

    private int generationsOf(int name) {
        int seen = 0;
        for (int i = 0; i < folk.size; i++) {
            if (names.of[i] == name) {
                seen |= 1 << folk.generation[i];
            }
        }
        return Integer.bitCount(seen);
    }

    private static int byteOf(long w, int place) {
        return (int) (w >>> (8 * place)) & 255;
    }

    private static boolean isKind(int kind) {
        return kind >= CHILD && kind <= HEIR;
    }

    private static boolean isName(int name) {
        return name >= 0 && name < NAMES;
    }

    /** A LAW: two RULES (the second one NONE where EVERY is 0) and that for TWINS. */
    private static final class Law {
        int first;
        int every;
        int second;
        int twins;

        Law(int first, int every, int second, int twins) {
            this.first = first;
            this.every = every;
            this.second = second;
            this.twins = twins;
        }
    }

    /** THE PAGE, read letter by letter: each place in a LAW is a state, by what stands ahead of it. */
    private static final class Page {
        private static final int AT_START = 0, BEHIND_FIRST = 1, BEHIND_EVERY = 2,
                BEHIND_SECOND = 3, BEHIND_T = 4, AT_END = 5, NO_LAW = -1;

        final int[] codes = new int[LETTERS_MOST];
        int length;

        void add(int code) {
            if (length < LETTERS_MOST) {
                codes[length] = code;
                length++;
            }
        }

        int firstFault() {
            int state = AT_START;
            for (int i = 0; i < length; i++) {
                state = next(state, codes[i]);
                if (state == NO_LAW) {
                    return i;
                }
            }
            return length;
        }

        boolean isLaw() {
            int state = AT_START;
            for (int i = 0; i < length; i++) {
                state = next(state, codes[i]);
            }
            return state == BEHIND_FIRST || state == BEHIND_SECOND || state == AT_END;
        }

        /** Only of a PAGE that is a LAW. */
        void readInto(Law law) {
            law.every = 0;
            law.second = NONE;
            law.twins = BY_MOTHER;
            int state = AT_START;
            for (int i = 0; i < length; i++) {
                state = next(state, codes[i]);
                switch (state) {
                    case BEHIND_FIRST: law.first = ruleOf(codes[i]); break;
                    case BEHIND_EVERY: law.every = codes[i] - '0'; break;
                    case BEHIND_SECOND: law.second = ruleOf(codes[i]); break;
                    case AT_END: law.twins = ruleOf(codes[i]); break;
                    default: break;
                }
            }
        }

        private static int next(int state, int code) {
            boolean rule = ruleOf(code) != NONE;
            switch (state) {
                case AT_START: return rule ? BEHIND_FIRST : NO_LAW;
                case BEHIND_FIRST: return isEvery(code) ? BEHIND_EVERY : code == 't' ? BEHIND_T : NO_LAW;
                case BEHIND_EVERY: return rule ? BEHIND_SECOND : NO_LAW;
                case BEHIND_SECOND: return code == 't' ? BEHIND_T : NO_LAW;
                case BEHIND_T: return rule ? AT_END : NO_LAW;
                default: return NO_LAW;
            }
        }

        private static boolean isEvery(int code) {
            return code >= '0' + EVERY_LEAST && code <= '0' + EVERY_MOST;
        }

        private static int ruleOf(int code) {
            switch (code) {
                case 'f': return BY_FATHER;
                case 'm': return BY_MOTHER;
                case 'g': return BY_MOTHERS_MOTHER;
                case 'p': return BY_FATHERS_MOTHER;
                default: return NONE;
            }
        }
    }

    /**
     * All PEOPLE. Who stands behind a GAP counts here as the least man; parents are always of
     * less number than the child, so what follows from parents is known once a PERSON is added.
     */
    private static final class Folk {
        int size;
        final int[] kind = new int[PEOPLE_MOST];
        final int[] sex = new int[PEOPLE_MOST];
        final int[] father = new int[PEOPLE_MOST];
        final int[] mother = new int[PEOPLE_MOST];
        final boolean[] gap = new boolean[PEOPLE_MOST];
        final int[] generation = new int[PEOPLE_MOST];
        final int[] told = new int[PEOPLE_MOST];
        final int[] written = new int[PEOPLE_MOST];
        final boolean[] alive = new boolean[PEOPLE_MOST];
        /** At i * PEOPLE_MOST + j: the fewest steps up from i to j; NONE: j is not above i. */
        private final int[] up = new int[PEOPLE_MOST * PEOPLE_MOST];

        boolean has(int person) {
            return person >= 0 && person < size;
        }

        boolean isOfSex(int person, int wanted) {
            return has(person) && sex[person] == wanted;
        }

        /** Whether it has no parents; who has one of them has both. */
        boolean isFounder(int person) {
            return father[person] < 0 || mother[person] < 0;
        }

        boolean fitsAsFather(int father) {
            return father == GAP ? leastMan() != NONE : isOfSex(father, MAN);
        }

        int leastMan() {
            for (int i = 0; i < size; i++) {
                if (sex[i] == MAN) {
                    return i;
                }
            }
            return NONE;
        }

        int gaps() {
            int n = 0;
            for (int i = 0; i < size; i++) {
                n += gap[i] ? 1 : 0;
            }
            return n;
        }

        int living() {
            int n = 0;
            for (int i = 0; i < size; i++) {
                n += alive[i] ? 1 : 0;
            }
            return n;
        }

        int entries() {
            int n = 0;
            for (int i = 0; i < size; i++) {
                n += written[i] != NONE ? 1 : 0;
            }
            return n;
        }

        int founders() {
            int n = 0;
            for (int i = 0; i < size; i++) {
                n += isFounder(i) ? 1 : 0;
            }
            return n;
        }

        /** Only where the parents fit. */
        int add(int newKind, int newSex, int newFather, int newMother, int name) {
            int i = size;
            if (i >= PEOPLE_MOST) {
                return FULL;
            }
            kind[i] = newKind;
            sex[i] = newSex;
            gap[i] = newFather == GAP;
            father[i] = gap[i] ? leastMan() : newFather;
            mother[i] = newMother;
            told[i] = name;
            written[i] = NONE;
            alive[i] = true;
            generation[i] = isFounder(i) ? 0 : 1 + Math.max(generation[father[i]], generation[mother[i]]);
            for (int j = 0; j < PEOPLE_MOST; j++) {
                up[i * PEOPLE_MOST + j] = isFounder(i) ? NONE : oneMore(steps(father[i], j), steps(mother[i], j));
            }
            up[i * PEOPLE_MOST + i] = 0;
            size++;
            return i;
        }

        private int steps(int from, int to) {
            return up[from * PEOPLE_MOST + to];
        }

        private static int oneMore(int byFather, int byMother) {
            if (byFather == NONE) {
                return byMother == NONE ? NONE : byMother + 1;
            }
            return byMother == NONE ? byFather + 1 : Math.min(byFather, byMother) + 1;
        }

        int distance(int a, int b) {
            int least = NONE;
            for (int j = 0; j < size; j++) {
                int fromA = steps(a, j);
                int fromB = steps(b, j);
                if (fromA != NONE && fromB != NONE && (least == NONE || fromA + fromB < least)) {
                    least = fromA + fromB;
                }
            }
            return least;
        }

        int nearestLiving(int person) {
            int nearest = NONE;
            int least = NONE;
            for (int i = 0; i < size; i++) {
                int d = i != person && alive[i] ? distance(person, i) : NONE;
                if (d != NONE && (least == NONE || d < least)) {
                    nearest = i;
                    least = d;
                }
            }
            return nearest;
        }
    }

    /** What restore() gives back; kinds and parents of those who stay never change. */
    private static final class Image {
        boolean there;
        private int size;
        private final int[] told = new int[PEOPLE_MOST];
        private final int[] written = new int[PEOPLE_MOST];
        private final boolean[] alive = new boolean[PEOPLE_MOST];

        void keep(Folk folk) {
            there = true;
            size = folk.size;
            for (int i = 0; i < size; i++) {
                told[i] = folk.told[i];
                written[i] = folk.written[i];
                alive[i] = folk.alive[i];
            }
        }

        void giveBack(Folk folk) {
            folk.size = size;
            for (int i = 0; i < size; i++) {
                folk.told[i] = told[i];
                folk.written[i] = written[i];
                folk.alive[i] = alive[i];
            }
        }
    }

    /** The NAMES of all, by any LAW, any fathers and any NAMES of those who have no parents. */
    private static final class Names {
        final int[] of = new int[PEOPLE_MOST];
        /** How long the ROW is that ends with each, by the NAME it has. */
        private final int[] row = new int[PEOPLE_MOST];
        private final Folk folk;

        Names(Folk folk) {
            this.folk = folk;
        }

        void give(int[] fathers, int[] told, Law law) {
            for (int i = 0; i < folk.size; i++) {
                if (fathers[i] < 0 || folk.mother[i] < 0) {
                    of[i] = told[i];
                    row[i] = 1;
                } else {
                    of[i] = ofOneWithParents(i, fathers, law);
                    row[i] = rowWith(fathers[i], of[i]);
                }
            }
        }

        private int ofOneWithParents(int i, int[] fathers, Law law) {
            if (folk.kind[i] == TWIN || (folk.kind[i] == HEIR && isTaken(i, fathers))) {
                return byRule(law.twins, i, fathers);
            }
            if (folk.kind[i] == HEIR) {
                return of[fathers[i]];
            }
            int name = byRule(law.first, i, fathers);
            boolean tooOften = law.every > 0 && rowWith(fathers[i], name) >= law.every;
            return tooOften ? byRule(law.second, i, fathers) : name;
        }

        /** Whether one of less number with the same FATHER has the FATHER's NAME. */
        private boolean isTaken(int heir, int[] fathers) {
            for (int i = 0; i < heir; i++) {
                if (fathers[i] == fathers[heir] && of[i] == of[fathers[heir]]) {
                    return true;
                }
            }
            return false;
        }

        private int rowWith(int father, int name) {
            return of[father] == name ? row[father] + 1 : 1;
        }

        private int byRule(int rule, int i, int[] fathers) {
            int father = fathers[i];
            int mother = folk.mother[i];
            switch (rule) {
                case BY_MOTHER: return of[mother];
                case BY_MOTHERS_MOTHER: return ofMotherOf(mother);
                case BY_FATHERS_MOTHER: return ofMotherOf(father);
                default: return of[father];
            }
        }

        private int ofMotherOf(int parent) {
            int mother = folk.mother[parent];
            return mother < 0 ? of[parent] : of[mother];
        }

        private boolean isWrong(int i) {
            return folk.written[i] != NONE && folk.written[i] != of[i];
        }

        int errors() {
            int n = 0;
            for (int i = 0; i < folk.size; i++) {
                n += isWrong(i) ? 1 : 0;
            }
            return n;
        }

        int firstError() {
            for (int i = 0; i < folk.size; i++) {
                if (isWrong(i)) {
                    return i;
                }
            }
            return NONE;
        }
    }

    /** MENDED: tries all NAMES of those who have no parents, of whom there are four at most. */
    private static final class Mending {
        int fewest;
        private int founders;
        private final int[] at = new int[FOUNDERS_MOST];
        private final int[] best = new int[FOUNDERS_MOST];
        private final int[] told = new int[PEOPLE_MOST];
        private final Folk folk;
        private final Names trial;

        Mending(Folk folk, Names trial) {
            this.folk = folk;
            this.trial = trial;
        }

        void search(Law law) {
            int trials = findFounders();
            fewest = PEOPLE_MOST + 1;
            for (int n = 0; n < trials && fewest > 0; n++) {
                callFounders(n);
                trial.give(folk.father, told, law);
                if (trial.errors() < fewest) {
                    fewest = trial.errors();
                    keepBest();
                }
            }
        }

        int nameOfFounder(int which) {
            return which >= 0 && which < founders ? best[which] : NONE;
        }

        /** Answers how many trials there are. */
        private int findFounders() {
            founders = 0;
            int trials = 1;
            for (int i = 0; i < folk.size; i++) {
                if (folk.isFounder(i) && founders < FOUNDERS_MOST) {
                    at[founders] = i;
                    founders++;
                    trials *= NAMES;
                }
            }
            return trials;
        }

        /** The NAME of the first one is the highest digit, so that the least of like ones comes first. */
        private void callFounders(int n) {
            int rest = n;
            for (int k = founders - 1; k >= 0; k--) {
                told[at[k]] = rest % NAMES;
                rest /= NAMES;
            }
        }

        private void keepBest() {
            for (int k = 0; k < founders; k++) {
                best[k] = told[at[k]];
            }
        }
    }

    /** WAYS and SURE: tries all men in all GAPS. */
    private static final class Guessing {
        int found;
        /** The FATHER in all WAYS, or NONE. */
        final int[] certain = new int[PEOPLE_MOST];
        private int gaps;
        private final int[] at = new int[GAPS_MOST];
        private final int[] choices = new int[GAPS_MOST];
        private final int[] men = new int[PEOPLE_MOST];
        private final int[] fathers = new int[PEOPLE_MOST];
        private final Folk folk;
        private final Names trial;

        Guessing(Folk folk, Names trial) {
            this.folk = folk;
            this.trial = trial;
        }

        void search(Law law) {
            int trials = findGaps();
            found = 0;
            for (int i = 0; i < folk.size; i++) {
                fathers[i] = folk.father[i];
                certain[i] = NONE;
            }
            for (int n = 0; n < trials; n++) {
                fillGaps(n);
                trial.give(fathers, folk.told, law);
                if (trial.firstError() == NONE) {
                    noteWay();
                }
            }
        }

        /** Answers how many trials there are. The men ahead of a GAP are the first ones of all men. */
        private int findGaps() {
            gaps = 0;
            int trials = 1;
            int menAhead = 0;
            for (int i = 0; i < folk.size; i++) {
                if (folk.gap[i] && gaps < GAPS_MOST && menAhead > 0) {
                    at[gaps] = i;
                    choices[gaps] = menAhead;
                    gaps++;
                    trials *= menAhead;
                }
                if (folk.sex[i] == MAN) {
                    men[menAhead] = i;
                    menAhead++;
                }
            }
            return trials;
        }

        private void fillGaps(int n) {
            int rest = n;
            for (int k = 0; k < gaps; k++) {
                int base = Math.max(1, choices[k]);
                fathers[at[k]] = men[rest % base];
                rest /= base;
            }
        }

        private void noteWay() {
            for (int i = 0; i < folk.size; i++) {
                if (found == 0) {
                    certain[i] = fathers[i];
                } else if (certain[i] != fathers[i]) {
                    certain[i] = NONE;
                }
            }
            found++;
        }
    }

    /** LAWS that fit: how many, and the first of them. */
    private static final class LawSearch {
        private static final int EVERIES = EVERY_MOST - EVERY_LEAST + 1;

        private int fits;
        private final Law firstFit = new Law(NONE, NONE, NONE, NONE);
        private final Law tried = new Law(NONE, NONE, NONE, NONE);
        private final Folk folk;
        private final Names trial;

        LawSearch(Folk folk, Names trial) {
            this.folk = folk;
            this.trial = trial;
        }

        void search(int twins) {
            fits = 0;
            tried.twins = twins;
            for (int n = 0; n < RULES + RULES * EVERIES * RULES; n++) {
                setTried(n);
                trial.give(folk.father, folk.told, tried);
                if (trial.firstError() == NONE) {
                    noteFit();
                }
            }
        }

        int tells(int what) {
            if (what != 0 && fits == 0) {
                return NONE;
            }
            switch (what) {
                case 0: return fits;
                case 1: return firstFit.first;
                case 2: return firstFit.every;
                default: return firstFit.second;
            }
        }

        /** The n-th LAW in the document's order: those of one RULE are ahead. */
        private void setTried(int n) {
            if (n < RULES) {
                tried.first = n;
                tried.every = 0;
                tried.second = NONE;
            } else {
                int m = n - RULES;
                tried.first = m / (EVERIES * RULES);
                tried.every = EVERY_LEAST + m / RULES % EVERIES;
                tried.second = m % RULES;
            }
        }

        private void noteFit() {
            if (fits == 0) {
                firstFit.first = tried.first;
                firstFit.every = tried.every;
                firstFit.second = tried.second;
            }
            fits++;
        }
    }

    /** COUPLES: women are held as bits, by number. */
    private static final class Couples {
        int most;
        final int[] spouse = new int[PEOPLE_MOST];
        private final int[] womenFor = new int[PEOPLE_MOST];
        private final int[] husband = new int[PEOPLE_MOST];
        private int asked;
        private final Folk folk;
        private final Names names;

        Couples(Folk folk, Names names) {
            this.folk = folk;
            this.names = names;
        }

        boolean allowed(int a, int b) {
            if (folk.sex[a] == folk.sex[b] || !folk.alive[a] || !folk.alive[b] || names.of[a] == names.of[b]) {
                return false;
            }
            int d = folk.distance(a, b);
            return d == NONE || d > TOO_NEAR;
        }

        /** Each man by number takes the least woman with whom as many couples as ever can still be. */
        void wedAll() {
            findWomen();
            most = mostFrom(0, 0);
            int left = most;
            int taken = 0;
            for (int man = 0; man < folk.size; man++) {
                int wife = leastWife(man, taken, left);
                if (wife != NONE) {
                    spouse[man] = wife;
                    spouse[wife] = man;
                    taken |= 1 << wife;
                    left--;
                }
            }
        }

        private void findWomen() {
            for (int i = 0; i < PEOPLE_MOST; i++) {
                spouse[i] = NONE;
                womenFor[i] = 0;
            }
            for (int man = 0; man < folk.size; man++) {
                for (int i = 0; i < folk.size && folk.sex[man] == MAN; i++) {
                    womenFor[man] |= allowed(man, i) ? 1 << i : 0;
                }
            }
        }

        private int leastWife(int man, int taken, int left) {
            for (int i = 0; i < folk.size; i++) {
                int bit = 1 << i;
                if ((womenFor[man] & ~taken & bit) != 0 && 1 + mostFrom(man + 1, taken | bit) == left) {
                    return i;
                }
            }
            return NONE;
        }

        /** The most couples of men from a number on, without the women who are taken. */
        private int mostFrom(int start, int taken) {
            for (int i = 0; i < PEOPLE_MOST; i++) {
                husband[i] = NONE;
            }
            int n = 0;
            for (int man = start; man < folk.size; man++) {
                asked = taken;
                n += findsWife(this, man, 0) ? 1 : 0;
            }
            return n;
        }

        /** A husband who is asked for his wife looks for another one; no woman is asked twice. */
        private static boolean findsWife(Couples all, int man, int depth) {
            if (man < 0 || depth > PEOPLE_MOST) {
                return false;
            }
            for (int i = 0; i < all.folk.size; i++) {
                int bit = 1 << i;
                if ((all.womenFor[man] & ~all.asked & bit) != 0) {
                    all.asked |= bit;
                    if (all.husband[i] == NONE || findsWife(all, all.husband[i], depth + 1)) {
                        all.husband[i] = man;
                        return true;
                    }
                }
            }
            return false;
        }
    }
}
