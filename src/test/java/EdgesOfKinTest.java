/** The edges of promises 18 to 22, a sentence each: NEAR, KIN, MAY WED, COUPLES, and how long a NAME LASTS. */
public final class EdgesOfKinTest {
    /**
     * Two branches below 0 and 1: 2 a son, 3 a daughter; 4, 5 a woman and a man from elsewhere;
     * 6 a son of 2 and 4, 7 a daughter of 5 and 3; 8 a son of 6 and 4, 9 a daughter of 5 and 7.
     */
    private static OtherName branches() {
        OtherName x = Due.withLaw("f");
        Due.man(x, 0);
        Due.woman(x, 1);
        Due.son(x, 0, 1);
        Due.daughter(x, 0, 1);
        Due.woman(x, 2);
        Due.man(x, 3);
        Due.son(x, 2, 4);
        Due.daughter(x, 5, 3);
        Due.son(x, 6, 4);
        Due.daughter(x, 5, 7);
        return x;
    }

    private static void near() {
        Due.says("terms", "the least of steps up (by parents) from the one and from the other one to one that both come to, together");
        int[][] due = {
            {0, Due.NONE, 1, 1, Due.NONE, Due.NONE, 2, 2, 3, 3},
            {Due.NONE, 0, 1, 1, Due.NONE, Due.NONE, 2, 2, 3, 3},
            {1, 1, 0, 2, Due.NONE, Due.NONE, 1, 3, 2, 4},
            {1, 1, 2, 0, Due.NONE, Due.NONE, 3, 1, 4, 2},
            {Due.NONE, Due.NONE, Due.NONE, Due.NONE, 0, Due.NONE, 1, Due.NONE, 1, Due.NONE},
            {Due.NONE, Due.NONE, Due.NONE, Due.NONE, Due.NONE, 0, Due.NONE, 1, Due.NONE, 1},
            {2, 2, 1, 3, 1, Due.NONE, 0, 4, 1, 5},
            {2, 2, 3, 1, Due.NONE, 1, 4, 0, 5, 1},
            {3, 3, 2, 4, 1, Due.NONE, 1, 5, 0, 6},
            {3, 3, 4, 2, Due.NONE, 1, 5, 1, 6, 0}};
        OtherName x = branches();
        for (int a = 0; a < 10; a++) {
            for (int b = 0; b < 10; b++) Due.due("near " + a + " " + b, x.near(a, b), due[a][b]);
        }
        OtherName y = Due.chain("f", 3, 1, 12);
        Due.due("ten steps, by fathers", y.near(11, 0), 10);
        Due.due("one step, by the mother", y.near(11, 1), 1);
        Due.due("by one as well as by two", y.near(11, 10), 1);
        Due.due("by the mother of both, not by fathers", y.near(11, 8), 2);
        Due.due("the other way round", y.near(8, 11), 2);

        Due.says("18", "NEAR; NONE. (0: itself)");
        for (int i = 0; i < 12; i++) Due.due("itself " + i, y.near(i, i), 0);
        Due.due("no one that both come to", y.near(0, 1), Due.NONE);
        y.dies(11);
        y.dies(0);
        Due.due("the dead are near", y.near(0, 11), 10);

        Due.says("terms", "it counts as the least of these (a GAP, of NEAR)");
        OtherName z = Due.withLaw("f");
        Due.woman(z, 1);
        Due.man(z, 2);
        Due.man(z, 3);
        Due.daughter(z, Due.GAP, 0);
        Due.son(z, 1, 0);
        Due.due("the least man", z.near(3, 1), 1);
        Due.due("no other man", z.near(3, 2), Due.NONE);
        Due.due("his son", z.near(3, 4), 2);

        Due.says("18", "UNKNOWN: a, b.");
        long ahead = x.digest();
        for (int i : new int[] {-1, Due.GAP, 10, 11, 12}) {
            Due.refused("a = " + i, x, ahead, x.near(i, 0), Due.UNKNOWN);
            Due.refused("b = " + i, x, ahead, x.near(9, i), Due.UNKNOWN);
            Due.refused("both " + i, x, ahead, x.near(i, i), Due.UNKNOWN);
        }
        for (int far : Due.FAR) {
            Due.refused("a = " + far, x, ahead, x.near(far, 9), Due.UNKNOWN);
            Due.refused("b = " + far, x, ahead, x.near(0, far), Due.UNKNOWN);
        }
    }

    private static void kin() {
        Due.says("terms", "KIN of one: who of all others who are ALIVE (all are at first) is NEAREST to it");
        OtherName x = branches();
        int[] due = {2, 2, 0, 0, 6, 7, 2, 3, 4, 5};
        for (int i = 0; i < 10; i++) Due.due("kin of " + i, x.kin(i), due[i]);
        x.dies(4);
        Due.due("the dead are no kin", x.kin(8), 6);
        Due.due("of the dead", x.kin(4), 6);
        x.dies(6);
        Due.due("two steps, no one by one", x.kin(8), 2);
        x.dies(2);
        Due.due("three steps", x.kin(8), 0);
        x.dies(0);
        Due.due("of like ones the next", x.kin(8), 1);
        x.dies(1);
        Due.due("four steps", x.kin(8), 3);
        x.dies(3);
        Due.due("five steps: of greater number", x.kin(8), 7);
        x.dies(7);
        Due.due("six steps", x.kin(8), 9);

        Due.says("19", "KIN; NONE.");
        x.dies(9);
        Due.due("nobody of them is alive", x.kin(8), Due.NONE);
        Due.due("one who is not near is no kin", x.about(5, 6), 1);
        OtherName y = new OtherName();
        Due.man(y, 1);
        Due.due("alone: not itself", y.kin(0), Due.NONE);
        Due.woman(y, 2);
        Due.due("a stranger", y.kin(0), Due.NONE);

        Due.says("terms", "NEAREST to it, of like ones the least");
        Due.son(y, 0, 1);
        Due.son(y, 0, 1);
        Due.due("father, mother", y.kin(3), 0);
        Due.due("of two sons", y.kin(1), 2);
        y.dies(0);
        y.dies(1);
        Due.due("a brother", y.kin(3), 2);

        Due.says("19", "UNKNOWN.");
        long ahead = y.digest();
        for (int i : new int[] {-1, Due.GAP, 4, 5, 12}) Due.refused("nobody " + i, y, ahead, y.kin(i), Due.UNKNOWN);
        for (int far : Due.FAR) Due.refused("nobody " + far, y, ahead, y.kin(far), Due.UNKNOWN);
    }

    private static void may(String what, OtherName x, int a, int b, int want) {
        Due.due(what, x.may(a, b), want);
        Due.due(what + ", the other way round", x.may(b, a), want);
    }

    private static void mayWed() {
        Due.says("terms", "MAY WED: a man and a woman");
        OtherName x = branches();
        may("a man and a woman", x, 0, 1, 1);
        may("two men", x, 0, 5, 0);
        may("two women", x, 1, 4, 0);
        may("a man and himself", x, 0, 0, 0);
        may("a woman and herself", x, 1, 1, 0);

        Due.says("terms", "who are not NEAR by 3 or less");
        may("by 1", x, 1, 2, 0);
        may("by 2", x, 2, 3, 0);
        may("by 2, of unlike names", x, 1, 6, 0);
        may("by 3, of unlike names", x, 2, 7, 0);
        may("by 3, of unlike names", x, 9, 0, 0);
        may("by 4", x, 6, 7, 1);
        may("by 4", x, 2, 9, 1);
        may("by 5", x, 6, 9, 1);
        may("by 6", x, 8, 9, 1);
        may("not near at all", x, 2, 4, 1);

        Due.says("terms", "with unlike NAMES");
        x.call(5, 0);
        may("by 4, of like names", x, 6, 7, 0);
        may("by 6, of like names", x, 8, 9, 0);
        x.call(1, 0);
        may("not near at all, of like names", x, 0, 1, 0);
        x.call(5, 3);
        may("of unlike names again", x, 6, 7, 1);

        Due.says("terms", "both ALIVE");
        x.dies(7);
        may("she is dead", x, 6, 7, 0);
        x.dies(8);
        may("he is dead", x, 8, 9, 0);
        x.dies(9);
        may("both are dead", x, 8, 9, 0);

        Due.says("20", "Whether two MAY WED: 1, 0. UNKNOWN: a, b.");
        long ahead = x.digest();
        for (int i : new int[] {-1, Due.GAP, 10, 11, 12}) {
            Due.refused("a = " + i, x, ahead, x.may(i, 1), Due.UNKNOWN);
            Due.refused("b = " + i, x, ahead, x.may(0, i), Due.UNKNOWN);
            Due.refused("both " + i, x, ahead, x.may(i, i), Due.UNKNOWN);
        }
        for (int far : Due.FAR) {
            Due.refused("a = " + far, x, ahead, x.may(far, 0), Due.UNKNOWN);
            Due.refused("b = " + far, x, ahead, x.may(1, far), Due.UNKNOWN);
        }
    }

    private static void couplesMost() {
        Due.says("terms", "COUPLES: as many as can wed at once, everybody once at most");
        OtherName x = new OtherName();
        Due.weds("nobody", x);
        Due.man(x, 1);
        Due.weds("a man alone", x, Due.NONE);
        Due.woman(x, 1);
        Due.weds("of like names", x, Due.NONE, Due.NONE);
        x.call(1, 2);
        Due.weds("one couple", x, 1, 0);
        Due.man(x, 2);
        Due.weds("two men, one woman", x, 1, 0, Due.NONE);
        Due.woman(x, 1);
        // 0 can wed 1 alone, 2 can wed 3 alone.
        Due.weds("two couples", x, 1, 0, 3, 2);
        x.call(3, 0);
        x.call(2, 3);
        Due.weds("the least ones", x, 1, 0, 3, 2);
        x.call(2, 0);
        // 0 can wed 1 and 3, 2 can wed 1 alone: for two couples, 0 has to wed 3.
        Due.weds("the most ahead of the least", x, 3, 2, 1, 0);
        OtherName y = new OtherName();
        for (int i = 0; i < 6; i++) Due.man(y, 0);
        for (int i = 0; i < 6; i++) Due.woman(y, 1);
        Due.weds("six couples", y, 6, 7, 8, 9, 10, 11, 0, 1, 2, 3, 4, 5);
        OtherName z = new OtherName();
        for (int i = 0; i < 6; i++) Due.woman(z, i);
        for (int i = 0; i < 6; i++) Due.man(z, i);
        // Women and men are called 0 to 5 in order, so that each two couples cross.
        Due.weds("six couples, nobody of his own name", z, 7, 6, 9, 8, 11, 10, 1, 0, 3, 2, 5, 4);
        OtherName all = new OtherName();
        for (int i = 0; i < 12; i++) Due.man(all, i % 6);
        Due.weds("twelve men", all);
    }

    private static void couplesLeast() {
        Due.says("terms", "of like ones the first man (by number) weds the least woman he can (rather than nobody), then the second");
        OtherName x = new OtherName();
        Due.woman(x, 2);
        Due.man(x, 2);
        Due.man(x, 1);
        Due.man(x, 1);
        Due.weds("the first man who can, rather than nobody", x, 2, Due.NONE, 0, Due.NONE);
        x.dies(2);
        Due.weds("the next one, if he is dead", x, 3, Due.NONE, Due.NONE, 0);
        x = new OtherName();
        Due.man(x, 1);
        Due.woman(x, 1);
        Due.woman(x, 2);
        Due.woman(x, 3);
        Due.weds("the least woman he can", x, 2, Due.NONE, 0, Due.NONE);
        Due.man(x, 2);
        Due.weds("the second, the least one he can", x, 2, 4, 0, Due.NONE, 1);
        Due.man(x, 2);
        Due.weds("the third, who is left", x, 2, 4, 0, 5, 1, 3);
        // A fourth can have nobody, though he could have any; the first three come ahead of him.
        Due.man(x, 5);
        Due.weds("the fourth, nobody", x, 2, 4, 0, 5, 1, 3, Due.NONE);
        // Of two ways to wed all, the first man's least woman counts, not the first woman's least man.
        x = new OtherName();
        for (int i = 0; i < 3; i++) Due.woman(x, i);
        for (int i = 0; i < 3; i++) Due.man(x, i);
        Due.weds("by men, not by women", x, 5, 3, 4, 1, 2, 0);
        // The first can have 3 and 4, the second 3 alone, the third 4 alone: two at most, the first has 3.
        x = new OtherName();
        Due.man(x, 5);
        Due.man(x, 1);
        Due.man(x, 0);
        Due.woman(x, 0);
        Due.woman(x, 1);
        Due.weds("the first man has the least, the second nobody", x, 3, Due.NONE, 4, 0, 2);
    }

    private static void couplesWhat() {
        Due.says("21", "10 and i whom PERSON i weds (NONE).");
        OtherName x = new OtherName();
        for (int what = 10; what < 22; what++) Due.due("nobody is there, " + what, x.couples(what), Due.NONE);
        for (int i = 0; i < 6; i++) Due.man(x, 0);
        for (int i = 0; i < 5; i++) Due.woman(x, 1);
        Due.due("person 10", x.couples(20), 4);
        Due.due("person 5", x.couples(15), Due.NONE);
        Due.due("who is not there", x.couples(21), Due.NONE);
        x.image();
        Due.woman(x, 1);
        Due.due("person 11", x.couples(21), 5);
        x.restore();
        Due.due("who is gone", x.couples(21), Due.NONE);

        Due.says("21", "OUTSIDE: what (0, 10 to 21).");
        long ahead = x.digest();
        for (int what : new int[] {-1, Due.GAP, 1, 2, 5, 8, 9, 22, 23}) {
            Due.refused("what = " + what, x, ahead, x.couples(what), Due.OUTSIDE);
        }
        for (int far : Due.FAR) Due.refused("what = " + far, x, ahead, x.couples(far), Due.OUTSIDE);
    }

    private static void lasts() {
        Due.says("terms", "A NAME LASTS: in how many GENERATIONS somebody has it.");
        OtherName x = new OtherName();
        for (int name = 0; name < 6; name++) Due.due("nobody has " + name, x.lasts(name), 0);
        x = Due.chain("f", 3, 1, 12);
        int[] due = {0, 1, 0, 11, 0, 0};
        for (int name = 0; name < 6; name++) Due.due("eleven generations, " + name, x.lasts(name), due[name]);
        for (int i = 0; i < 12; i++) x.dies(i);
        Due.due("of the dead, too", x.lasts(3), 11);
        OtherName y = new OtherName();
        for (int i = 0; i < 12; i++) Due.man(y, 5);
        Due.due("twelve of one generation", y.lasts(5), 1);
        // 4 is a name of generations 0 and 2, not of 1.
        OtherName z = Due.withLaw("f2m");
        Due.man(z, 4);
        Due.woman(z, 1);
        Due.woman(z, 4);
        Due.son(z, 0, 1);
        Due.son(z, 3, 2);
        Due.due("with a generation between", z.lasts(4), 2);
        Due.due("the other name", z.lasts(1), 2);

        Due.says("22", "UNKNOWN: name.");
        long ahead = z.digest();
        for (int name : new int[] {-1, 6, Due.GAP}) Due.refused("name " + name, z, ahead, z.lasts(name), Due.UNKNOWN);
        for (int far : Due.FAR) Due.refused("name " + far, z, ahead, z.lasts(far), Due.UNKNOWN);
    }

    public static void main(String[] args) {
        near();
        kin();
        mayWed();
        couplesMost();
        couplesLeast();
        couplesWhat();
        lasts();
        Due.end("edges of kin");
    }
}
