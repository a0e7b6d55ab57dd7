/** The edges of promises 13 to 17, a sentence each: WRONG, MENDED, WAYS, SURE, LAWS. */
public final class EdgesOfRegisterTest {
    private static void unchanged(String what, OtherName x, long ahead) {
        Due.due(what + " changes nothing", x.digest(), ahead);
    }

    private static void wrong() {
        Due.says("13", "What = 0 how many entries are WRONG, 1 the first one (NONE).");
        OtherName x = new OtherName();
        Due.due("nobody", x.wrong(0), 0);
        Due.due("nobody, the first", x.wrong(1), Due.NONE);
        x = Due.chain("f", 0, 1, 12);
        Due.due("nothing is written", x.wrong(0), 0);
        Due.due("nothing is written, the first", x.wrong(1), Due.NONE);
        for (int i = 11; i >= 0; i--) {
            x.write(i, 5);
            Due.due("wrong from " + i, x.wrong(0), 12 - i);
            Due.due("the first", x.wrong(1), i);
        }
        for (int i = 0; i < 11; i++) x.write(i, i == 1 ? 1 : 0);
        Due.due("the last alone", x.wrong(0), 1);
        Due.due("the first is the last", x.wrong(1), 11);
        x.write(11, 0);
        Due.due("all are right", x.wrong(0), 0);
        Due.due("all are right, the first", x.wrong(1), Due.NONE);

        Due.says("terms", "WRONG is an entry that is not the NAME. (a hole is no entry)");
        x.call(0, 3);
        Due.due("right ones become wrong", x.wrong(0), 11);
        Due.due("the first", x.wrong(1), 0);
        x.write(0, Due.NONE);
        Due.due("a hole is not wrong", x.wrong(0), 10);
        Due.due("the first behind the hole", x.wrong(1), 2);
        x.dies(2);
        Due.due("of the dead, too", x.wrong(1), 2);

        Due.says("13", "OUTSIDE.");
        long ahead = x.digest();
        Due.refused("below", x, ahead, x.wrong(-1), Due.OUTSIDE);
        Due.refused("above", x, ahead, x.wrong(2), Due.OUTSIDE);
        for (int far : Due.FAR) Due.refused("what = " + far, x, ahead, x.wrong(far), Due.OUTSIDE);
    }

    private static void mended(String what, OtherName x, int... want) {
        for (int i = 0; i < 5; i++) Due.due(what + ": mended(" + i + ")", x.mended(i), want[i]);
    }

    private static void mendedFewest() {
        Due.says("terms", "MENDED: how few entries would be WRONG, if FIRST ones and FOUNDLINGS (four at most) had other NAMES");
        OtherName x = Due.withLaw("f");
        Due.man(x, 5);
        x.person(Due.FOUNDLING, Due.WOMAN, Due.NONE, Due.NONE, 5);
        Due.woman(x, 5);
        x.person(Due.FOUNDLING, Due.MAN, Due.NONE, Due.NONE, 5);
        mended("nothing is written", x, 0, 0, 0, 0, 0);
        for (int i = 0; i < 4; i++) x.write(i, 5);
        mended("the last of all trials", x, 0, 5, 5, 5, 5);
        for (int i = 0; i < 4; i++) x.write(i, 4 - i);
        mended("as written", x, 0, 4, 3, 2, 1);
        Due.son(x, 0, 1);
        Due.son(x, 0, 1);
        x.write(4, 2);
        x.write(5, 2);
        mended("two of three", x, 1, 2, 3, 2, 1);
        Due.names("nobody is called another name", x, 5, 5, 5, 5, 5, 5);
        x.write(5, 4);
        mended("two of the other three", x, 1, 4, 3, 2, 1);
        Due.due("done so far", x.count(6), 25);

        Due.says("terms", "if FIRST ones and FOUNDLINGS .. had other NAMES (entries of others that no NAME can right)");
        x = Due.withLaw("f");
        Due.man(x, 5);
        Due.woman(x, 5);
        for (int i = 0; i < 10; i++) Due.son(x, 0, 1);
        for (int i = 2; i < 12; i++) x.write(i, i % 5);
        mended("each name twice", x, 8, 0, 0, Due.NONE, Due.NONE);
        x.write(2, 4);
        mended("4 thrice", x, 7, 4, 0, Due.NONE, Due.NONE);

        Due.says("terms", "it counts as the least of these (a GAP, of MENDED)");
        x = Due.withLaw("f");
        Due.man(x, 0);
        Due.man(x, 0);
        Due.woman(x, 0);
        Due.son(x, Due.GAP, 2);
        x.write(3, 4);
        mended("by the least man", x, 0, 4, 0, 0, Due.NONE);
    }

    private static void mendedLeast() {
        Due.says("terms", "of like ones the least of the first of them, then of the second, and so on");
        OtherName x = Due.withLaw("f");
        Due.man(x, 5);
        Due.woman(x, 5);
        Due.son(x, 0, 1);
        x.write(0, 4);
        x.write(2, 3);
        mended("either of two", x, 1, 3, 0, Due.NONE, Due.NONE);
        // The last is called as 2 is, if 0 and 1 are called alike, else as 1 is.
        x = Due.withLaw("f3g");
        Due.man(x, 5);
        Due.woman(x, 5);
        Due.woman(x, 5);
        Due.born(x, Due.TWIN, Due.MAN, 0, 1);
        Due.son(x, 3, 2);
        x.write(4, 1);
        mended("0 0 1 ahead of 0 1 0", x, 0, 0, 0, 1, Due.NONE);
        x.write(1, 1);
        mended("0 1 0 ahead of 1 1 1", x, 0, 0, 1, 0, Due.NONE);
        x.write(0, 1);
        mended("1 1 1", x, 0, 1, 1, 1, Due.NONE);
        x.write(2, 0);
        // One of the entries has to be wrong: 0's (0 1 0), 1's (1 0 ..: then 4 is 0, wrong, too), 2's or 4's (1 1 ..).
        mended("0 1 0 ahead of 1 1 0", x, 1, 0, 1, 0, Due.NONE);
    }

    private static void mendedWho() {
        Due.says("14", "1 to 4 the NAME of the so-manieth who has no parents (NONE: there is none)");
        OtherName x = new OtherName();
        mended("nobody", x, 0, Due.NONE, Due.NONE, Due.NONE, Due.NONE);
        Due.woman(x, 1);
        x.write(0, 2);
        mended("one", x, 0, 2, Due.NONE, Due.NONE, Due.NONE);
        Due.man(x, 1);
        Due.son(x, 1, 0);
        x.person(Due.FOUNDLING, Due.MAN, Due.NONE, Due.NONE, 0);
        x.write(3, 5);
        mended("the third is person 3", x, 0, 2, 0, 5, Due.NONE);
        Due.son(x, 1, 0);
        Due.man(x, 0);
        x.write(5, 3);
        mended("the fourth is person 5", x, 0, 2, 0, 5, 3);

        Due.says("14", "OUTSIDE");
        long ahead = x.digest();
        Due.refused("below", x, ahead, x.mended(-1), Due.OUTSIDE);
        Due.refused("above", x, ahead, x.mended(5), Due.OUTSIDE);
        for (int far : Due.FAR) Due.refused("what = " + far, x, ahead, x.mended(far), Due.OUTSIDE);

        Due.says("14", "STATE: more than four have no parents");
        x.image();
        x.person(Due.FOUNDLING, Due.MAN, Due.NONE, Due.NONE, 0);
        ahead = x.digest();
        for (int what = 0; what < 5; what++) Due.refused("what = " + what, x, ahead, x.mended(what), Due.STATE);
        Due.due("OUTSIDE is ahead of STATE", x.mended(5), Due.OUTSIDE);
        Due.due("OUTSIDE is ahead of STATE", x.mended(-1), Due.OUTSIDE);
        x.restore();
        mended("four again", x, 0, 2, 0, 5, 3);
        OtherName y = new OtherName();
        for (int i = 0; i < 12; i++) Due.man(y, 0);
        Due.due("twelve", y.mended(0), Due.STATE);
    }

    private static void mendedForty() {
        Due.says("14", "STATE: .. or mended() was done 40 times.");
        OtherName x = new OtherName();
        for (int i = 0; i < 4; i++) Due.man(x, i);
        for (int i = 1; i <= 40; i++) {
            Due.due("a refused one", x.mended(5), Due.OUTSIDE);
            Due.due("the " + i + "th", x.mended(i % 5), 0);
            Due.due("done", x.count(6), i);
            x.digest();
        }
        long ahead = x.digest();
        for (int what = 0; what < 5; what++) Due.refused("the 41st, what = " + what, x, ahead, x.mended(what), Due.STATE);
        Due.refused("OUTSIDE is ahead of STATE", x, ahead, x.mended(5), Due.OUTSIDE);
        Due.due("still 40", x.count(6), 40);
        x.image();
        x.restore();
        Due.due("an image brings none back", x.mended(0), Due.STATE);
        OtherName y = new OtherName();
        for (int i = 0; i < 5; i++) Due.man(y, i);
        for (int i = 0; i < 50; i++) Due.due("five of them", y.mended(0), Due.STATE);
        Due.due("refused ones were not done", y.count(6), 0);
        OtherName z = new OtherName();
        for (int i = 1; i <= 40; i++) {
            Due.due("there is none", z.mended(4), Due.NONE);
            Due.due("it was done, though", z.count(6), i);
        }
        Due.due("the 41st", z.mended(4), Due.STATE);
    }

    private static void ways() {
        Due.says("15", "WAYS (1 or 0 without GAPS).");
        OtherName x = new OtherName();
        Due.due("nobody", x.ways(), 1);
        x = Due.chain("f", 3, 1, 12);
        Due.due("nothing is wrong", x.ways(), 1);
        x.write(11, 3);
        Due.due("a right entry", x.ways(), 1);
        x.write(11, 2);
        Due.due("a wrong entry", x.ways(), 0);

        Due.says("terms", "in how many ways all GAPS (three at most) can be filled, each by a man told ahead of that PERSON");
        x = Due.withLaw("f");
        Due.man(x, 3);
        Due.woman(x, 1);
        Due.daughter(x, Due.GAP, 1);
        Due.due("one man", x.ways(), 1);
        Due.man(x, 3);
        Due.due("a man told behind", x.ways(), 1);
        Due.son(x, Due.GAP, 1);
        Due.due("one man, then two", x.ways(), 2);
        x.dies(0);
        Due.due("dead men, too", x.ways(), 2);
        Due.daughter(x, Due.GAP, 1);
        Due.due("the son of a gap, too", x.ways(), 6);
        x = Due.withLaw("f");
        Due.woman(x, 1);
        for (int i = 1; i < 9; i++) Due.man(x, 1);
        for (int i = 9; i < 12; i++) Due.son(x, Due.GAP, 0);
        Due.due("the most: 8 times 9 times 10", x.ways(), 720);

        Due.says("terms", "so that nothing is WRONG");
        x.write(0, 2);
        Due.due("an entry of one without parents", x.ways(), 0);
        x.write(0, 1);
        for (int i = 1; i < 9; i++) x.call(i, i % 2);
        x.write(9, 1);
        x.write(10, 1);
        x.write(11, 1);
        // 9 of the four called 1; 10 of these and 9; 11 of these, 9 and 10: but rows are no matter of "f".
        Due.due("4 times 5 times 6", x.ways(), 120);
        x.write(9, 0);
        Due.due("4 times 4 times 5", x.ways(), 80);
        long ahead = x.digest();
        x.ways();
        unchanged("ways()", x, ahead);
        Due.due("the gap counts as before", x.about(9, 4), 1);
    }

    private static void waysThatTellByOthers() {
        Due.says("terms", "so that nothing is WRONG (by ROWS of the fathers who fill the GAPS)");
        OtherName x = Due.withLaw("f3m");
        Due.man(x, 3);
        Due.woman(x, 1);
        Due.son(x, 0, 1);
        Due.son(x, Due.GAP, 1);
        Due.due("either", x.ways(), 2);
        x.write(3, 1);
        Due.due("a row of three", x.ways(), 1);
        Due.due("his father", x.sure(3), 2);
        x.write(3, 3);
        Due.due("a row of two", x.ways(), 1);
        Due.due("his father", x.sure(3), 0);

        Due.says("terms", "so that nothing is WRONG (by HEIRS of the same FATHER)");
        x = Due.withLaw("f");
        Due.man(x, 3);
        Due.woman(x, 1);
        Due.man(x, 4);
        Due.born(x, Due.HEIR, Due.MAN, Due.GAP, 1);
        Due.born(x, Due.HEIR, Due.MAN, 0, 1);
        x.write(4, 3);
        Due.due("as the gap counts, it is wrong", x.wrong(0), 1);
        Due.due("but there is a way", x.ways(), 1);
        Due.due("the other father", x.sure(3), 2);

        Due.says("terms", "so that nothing is WRONG (by the FATHER's MOTHER)");
        x = Due.withLaw("p");
        Due.man(x, 3);
        Due.woman(x, 1);
        Due.son(x, 0, 1);
        Due.son(x, Due.GAP, 1);
        x.write(3, 1);
        Due.due("one way", x.ways(), 1);
        Due.due("he who has a mother", x.sure(3), 2);
    }

    private static void sure() {
        Due.says("terms", "SURE: who is the FATHER of one in all of these.");
        OtherName x = Due.withLaw("f");
        Due.man(x, 3);
        Due.woman(x, 1);
        Due.daughter(x, Due.GAP, 1);
        Due.due("the only man, number 0", x.sure(2), 0);
        Due.man(x, 4);
        Due.son(x, 3, 1);
        Due.daughter(x, Due.GAP, 1);
        Due.due("a father who is known", x.sure(4), 3);

        Due.says("16", "NONE: it is not (or there are no WAYS, or it has no parents)");
        Due.due("three men", x.sure(5), Due.NONE);
        x.write(5, 4);
        Due.due("two men", x.sure(5), Due.NONE);
        x.write(5, 3);
        Due.due("one man", x.sure(5), 0);
        Due.due("the other gap, too", x.sure(2), 0);
        Due.due("without parents", x.sure(0), Due.NONE);
        Due.due("without parents", x.sure(1), Due.NONE);
        x.write(5, 5);
        Due.due("no ways", x.ways(), 0);
        for (int i = 0; i < 6; i++) Due.due("no ways, " + i, x.sure(i), Due.NONE);
        x.write(5, Due.NONE);
        Due.due("not all ways agree, of one", x.sure(5), Due.NONE);
        Due.due("all ways agree, of another", x.sure(2), 0);

        Due.says("16", "UNKNOWN.");
        long ahead = x.digest();
        for (int i : new int[] {-1, Due.GAP, 6, 7, 11, 12}) Due.refused("nobody " + i, x, ahead, x.sure(i), Due.UNKNOWN);
        for (int far : Due.FAR) Due.refused("nobody " + far, x, ahead, x.sure(far), Due.UNKNOWN);
        Due.due("where nobody is", new OtherName().sure(0), Due.UNKNOWN);
    }

    /** 0 a man called 3, 1 and 2 women called 1 and 2. */
    private static OtherName three() {
        OtherName x = new OtherName();
        Due.man(x, 3);
        Due.woman(x, 1);
        Due.woman(x, 2);
        return x;
    }

    private static void lawsHowMany() {
        Due.says("17", "LAWS that fit: what = 0 how many");
        OtherName x = new OtherName();
        Due.laws("nobody: four, and four times four times four", x, 68, Due.F, 0, Due.NONE);
        Due.man(x, 2);
        Due.woman(x, 4);
        Due.son(x, 0, 1);
        x.write(2, 2);
        Due.laws("f, p, f2f, f2p, p2f, p2p, and f and p by 3 to 5", x, 30, Due.F, 0, Due.NONE);

        Due.says("terms", "the first of them (those of one RULE ahead, f, m, g, p; ..)");
        x.write(2, 4);
        Due.laws("m and g, f2m, f2g, p2m, p2g: m is ahead of f2m", x, 38, Due.M, 0, Due.NONE);
        OtherName y = three();
        Due.born(y, Due.HEIR, Due.WOMAN, 0, 1);
        Due.son(y, 0, 2);
        Due.son(y, 4, 3);
        y.write(4, 2);
        y.write(5, 1);
        Due.laws("g, g with every, f2g, p2g: g is the first", y, 19, Due.G, 0, Due.NONE);
        y = three();
        Due.son(y, 0, 1);
        Due.son(y, 3, 2);
        y.write(3, 3);
        y.write(4, 1);
        Due.laws("p, p2f, p2p, p by 3 to 5, f2p, f3p: p is the first", y, 17, Due.P, 0, Due.NONE);

        Due.says("17", "NONE, 1 to 3: no LAW fits.");
        x.write(2, 0);
        Due.laws("a name that nobody has", x, 0, Due.NONE, Due.NONE, Due.NONE);
        x.write(2, Due.NONE);
        x.write(0, 0);
        Due.laws("one without parents", x, 0, Due.NONE, Due.NONE, Due.NONE);

        Due.says("17", "OUTSIDE.");
        long ahead = x.digest();
        Due.refused("below", x, ahead, x.laws(-1), Due.OUTSIDE);
        Due.refused("above", x, ahead, x.laws(4), Due.OUTSIDE);
        for (int far : Due.FAR) Due.refused("what = " + far, x, ahead, x.laws(far), Due.OUTSIDE);
    }

    private static void lawsInOrder() {
        Due.says("terms", "(.. then by first RULE, EVERY, second RULE)");
        OtherName x = three();
        Due.son(x, 0, 1);
        Due.born(x, Due.HEIR, Due.MAN, 0, 2);
        Due.daughter(x, 4, 1);
        Due.daughter(x, 3, 5);
        x.write(6, 2);
        Due.laws("f3m is ahead of p2m", x, 2, Due.F, 3, Due.M);
        x = three();
        Due.son(x, 0, 1);
        Due.son(x, 3, 2);
        Due.son(x, 4, 1);
        x.write(3, 3);
        x.write(5, 1);
        Due.laws("f3p is ahead of f4m and f4g", x, 3, Due.F, 3, Due.P);
        x = three();
        Due.son(x, 0, 2);
        Due.son(x, 3, 1);
        x.write(3, 3);
        x.write(4, 1);
        Due.laws("f3m is ahead of f3g", x, 2, Due.F, 3, Due.M);
        long ahead = x.digest();
        x.laws(0);
        unchanged("laws()", x, ahead);

        Due.says("terms", "(the RULE for TWINS as it is)");
        x = Due.withLaw("mtf");
        Due.man(x, 1);
        Due.woman(x, 2);
        Due.born(x, Due.TWIN, Due.MAN, 0, 1);
        x.write(2, 1);
        Due.laws("t is f", x, 68, Due.F, 0, Due.NONE);
        x.write(2, 2);
        Due.laws("t is not m", x, 0, Due.NONE, Due.NONE, Due.NONE);

        Due.says("terms", "it counts as the least of these (a GAP, of LAWS)");
        x = new OtherName();
        Due.man(x, 2);
        Due.woman(x, 4);
        Due.man(x, 5);
        Due.son(x, Due.GAP, 1);
        x.write(3, 5);
        Due.laws("another man does not count", x, 0, Due.NONE, Due.NONE, Due.NONE);
        x.write(3, 2);
        Due.laws("the least man", x, 30, Due.F, 0, Due.NONE);
    }

    public static void main(String[] args) {
        wrong();
        mendedFewest();
        mendedLeast();
        mendedWho();
        mendedForty();
        ways();
        waysThatTellByOthers();
        sure();
        lawsHowMany();
        lawsInOrder();
        Due.end("edges of the register");
    }
}
