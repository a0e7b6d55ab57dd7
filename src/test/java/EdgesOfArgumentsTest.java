/**
 * Every call with every mix of arguments at and just outside the document's limits, on objects of all sizes:
 * which word refuses it, or that none does; and that nothing is ever thrown.
 */
public final class EdgesOfArgumentsTest {
    private static final int[] EDGES = {Integer.MIN_VALUE, -104, -103, -102, -101, -3, -2, -1, 0, 1, 2, 3, 4, 5, 6, 7, 8, 9, 10, 11,
        12, 13, 20, 21, 22, 23, Integer.MAX_VALUE};
    private static final int NO_REFUSAL = 0;
    /** Each takes four calls at most, and an object is used for 512. */
    private static final int ROUNDS_MOST = 100;

    /** 0: nobody; 1: women alone; 2: both sexes and two gaps; 3: three gaps; 4: twelve, with three gaps. */
    private static OtherName ofState(int state) {
        OtherName x = new OtherName();
        if (state == 0) return x;
        Due.woman(x, 0);
        Due.woman(x, 5);
        if (state == 1) return x;
        Due.man(x, 1);
        for (int i = 0; i < (state == 2 ? 2 : 3); i++) Due.born(x, i * 2, i % 2, Due.GAP, i % 2);
        while (state == 4 && x.count(0) < 12) Due.born(x, Due.TWIN, x.count(0) % 2, 2, 1);
        return x;
    }

    private static boolean among(int n, int least, int most) {
        return n >= least && n <= most;
    }

    private static boolean ofSex(int[] sexes, int person, int sex) {
        return among(person, 0, sexes.length - 1) && sexes[person] == sex;
    }

    /** The word that the seventh promise has for it, or 0; by the sexes of those who are there. */
    private static int refusalOfPerson(int[] sexes, int gaps, int[] asked) {
        int father = asked[2];
        int name = asked[4];
        if (!among(asked[0], 0, 4) || !among(asked[1], 0, 1)) return Due.OUTSIDE;
        if (asked[0] == Due.FIRST || asked[0] == Due.FOUNDLING) {
            if (father != Due.NONE || asked[3] != Due.NONE) return Due.UNKNOWN;
            if (!among(name, 0, 5)) return Due.OUTSIDE;
        } else {
            boolean someMan = sexes.length > 2;
            if (father == Due.GAP ? !someMan : !ofSex(sexes, father, Due.MAN)) return Due.UNKNOWN;
            if (!ofSex(sexes, asked[3], Due.WOMAN)) return Due.UNKNOWN;
            if (name != 0) return Due.OUTSIDE;
        }
        boolean full = sexes.length == 12 || father == Due.GAP && gaps == 3;
        return full ? Due.FULL : NO_REFUSAL;
    }

    private static int[] sexesOf(OtherName x) {
        int[] sexes = new int[x.count(0)];
        for (int i = 0; i < sexes.length; i++) sexes[i] = x.about(i, 1);
        return sexes;
    }

    private static void person(int state) {
        int[] kinds = {-1, 0, 1, 2, 3, 4, 5};
        int[] sexes = {-1, 0, 1, 2};
        int[] parents = {Integer.MIN_VALUE, -3, -2, -1, 0, 1, 2, 3, 5, 6, 11, 12, Integer.MAX_VALUE};
        int[] names = {-1, 0, 1, 5, 6};
        int[] there = sexesOf(ofState(state));
        int gaps = ofState(state).count(1);
        int size = there.length;
        OtherName x = ofState(state);
        int rounds = 0;
        for (int kind : kinds) {
            for (int sex : sexes) {
                for (int father : parents) {
                    for (int mother : parents) {
                        for (int name : names) {
                            if (rounds++ == ROUNDS_MOST) {
                                x = ofState(state);
                                rounds = 1;
                            }
                            int want = refusalOfPerson(there, gaps, new int[] {kind, sex, father, mother, name});
                            String what = "state " + state + ", person(" + kind + ", " + sex + ", " + father + ", " + mother + ", " + name + ")";
                            if (want == NO_REFUSAL) x.image();
                            Due.due(what, x.person(kind, sex, father, mother, name), want == NO_REFUSAL ? size : want);
                            Due.due(what + ", people then", x.count(0), want == NO_REFUSAL ? size + 1 : size);
                            if (want == NO_REFUSAL) x.restore();
                        }
                    }
                }
            }
        }
    }

    private static void refusedBy(String what, int got, int want) {
        boolean refused = got >= Due.FULL && got <= Due.UNKNOWN;
        Due.due(what, refused ? got : NO_REFUSAL, want);
        if (!refused) Due.due(what + " answers at least -2", got >= Due.GAP ? 1 : 0, 1);
    }

    private static int outsideBut(boolean inside) {
        return inside ? NO_REFUSAL : Due.OUTSIDE;
    }

    private static void ofOne(int state) {
        for (int n : EDGES) {
            OtherName x = ofState(state);
            String what = "state " + state + ", of " + n + ": ";
            boolean there = among(n, 0, x.count(0) - 1);
            int unknown = there ? NO_REFUSAL : Due.UNKNOWN;
            int founders = new int[] {0, 2, 3, 3, 3}[state];
            refusedBy(what + "lawTold", x.lawTold(n), outsideBut(among(n, 0, 3)));
            refusedBy(what + "wrong", x.wrong(n), outsideBut(among(n, 0, 1)));
            refusedBy(what + "mended", x.mended(n), outsideBut(among(n, 0, 4)));
            if (among(n, 1, 4)) Due.due(what + "mended", x.mended(n), n <= founders ? 0 : Due.NONE);
            refusedBy(what + "laws", x.laws(n), outsideBut(among(n, 0, 3)));
            refusedBy(what + "couples", x.couples(n), outsideBut(n == 0 || among(n, 10, 21)));
            refusedBy(what + "count", x.count(n), outsideBut(among(n, 0, 6)));
            refusedBy(what + "lasts", x.lasts(n), among(n, 0, 5) ? NO_REFUSAL : Due.UNKNOWN);
            refusedBy(what + "sure", x.sure(n), unknown);
            refusedBy(what + "kin", x.kin(n), unknown);
            int alive = x.count(2);
            Due.due(what + "dies", x.dies(n), there ? alive - 1 : Due.UNKNOWN);
            Due.due(what + "dies again", x.dies(n), there ? Due.STATE : Due.UNKNOWN);
        }
    }

    private static void ofTwo(int state) {
        int founders = new int[] {0, 2, 3, 3, 3}[state];
        for (int a : EDGES) {
            OtherName x = ofState(state);
            boolean there = among(a, 0, x.count(0) - 1);
            for (int b : EDGES) {
                String what = "state " + state + ", of " + a + " and " + b + ": ";
                boolean otherThere = among(b, 0, x.count(0) - 1);
                refusedBy(what + "about", x.about(a, b), there ? outsideBut(among(b, 0, 7)) : Due.UNKNOWN);
                refusedBy(what + "as", x.as(a, b), there ? outsideBut(among(b, 0, 4)) : Due.UNKNOWN);
                refusedBy(what + "write", x.write(a, b), there ? outsideBut(among(b, -1, 5)) : Due.UNKNOWN);
                int stateOrOutside = among(a, 0, founders - 1) ? outsideBut(among(b, 0, 5)) : Due.STATE;
                refusedBy(what + "call", x.call(a, b), there ? stateOrOutside : Due.UNKNOWN);
                refusedBy(what + "near", x.near(a, b), there && otherThere ? NO_REFUSAL : Due.UNKNOWN);
                refusedBy(what + "may", x.may(a, b), there && otherThere ? NO_REFUSAL : Due.UNKNOWN);
            }
        }
    }

    /** Two bytes at all their edges, at any two places next to each other, the others being 0 or letters. */
    private static void letters() {
        int[] codes = {0, 1, 'f', 125, 126, 127, 128, 255};
        for (int place = 0; place < 7; place++) {
            for (int low : codes) {
                for (int high : codes) {
                    OtherName x = new OtherName();
                    Due.page(x, "abcdefghijkl");
                    long ahead = place == 0 ? 0 : 0x6666666666666666L >>> 8 * (8 - place);
                    long w = ahead | (long) low << 8 * place | (long) high << 8 * (place + 1);
                    int more = low == 0 ? place : high == 0 ? place + 1 : place + 2;
                    boolean outside = low > 126 || high > 126 || low == 0 && high != 0;
                    int want = outside ? Due.OUTSIDE : 12 + more > 16 ? Due.FULL : 12 + more;
                    String what = "codes " + low + " and " + high + " at " + place;
                    Due.due(what, x.letters(w), want);
                    Due.due(what + ", letters then", x.count(4), want > 0 ? want : 12);
                }
            }
        }
    }

    public static void main(String[] args) {
        Due.says("2", "OUTSIDE: a byte above 126, or one behind a 0 that is not 0; FULL: above 16.");
        letters();
        Due.says("7", "OUTSIDE: kind, sex; UNKNOWN: father, mother; OUTSIDE: name; FULL");
        for (int state = 0; state < 5; state++) person(state);
        Due.says("6, 12 to 17, 19, 21, 22, 25", "OUTSIDE; UNKNOWN; STATE (of a number)");
        for (int state = 0; state < 5; state++) ofOne(state);
        Due.says("8 to 11, 18, 20", "OUTSIDE; UNKNOWN; STATE (of two numbers)");
        for (int state = 0; state < 5; state++) ofTwo(state);
        Due.end("edges of arguments");
    }
}
