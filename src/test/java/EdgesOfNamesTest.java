/** The edges of what the document calls its terms, a sentence each: NAMES, RULES, ROWS, KINDS and GAPS. */
public final class EdgesOfNamesTest {
    private static void sixNames() {
        Due.says("terms", "NAMES are six, 0 to 5.");
        OtherName x = new OtherName();
        for (int name = 0; name < 6; name++) {
            Due.due("first of name " + name, Due.man(x, name), name);
            Due.due("its name", x.about(name, 4), name);
            Due.due("called another name", x.call(name, 5 - name), name);
            Due.due("its name", x.about(name, 4), 5 - name);
            Due.due("written " + name, x.write(name, name), Due.NONE);
            Due.due("lasts", x.lasts(5 - name) > 0 ? 1 : 0, 1);
        }
        long ahead = x.digest();
        for (int name : new int[] {-1, 6}) {
            Due.refused("a first of name " + name, x, ahead, Due.man(x, name), Due.OUTSIDE);
            Due.refused("called " + name, x, ahead, x.call(0, name), Due.OUTSIDE);
            Due.refused("how long lasts " + name, x, ahead, x.lasts(name), Due.UNKNOWN);
        }
        Due.refused("written 6", x, ahead, x.write(0, 6), Due.OUTSIDE);
        Due.refused("written -2", x, ahead, x.write(0, -2), Due.OUTSIDE);
    }

    /** 0, 1 and 2 have no parents; 3 is a daughter of 0 and 1, 4 a son of 0 and 2; 5 a son of 4 and 3. */
    private static OtherName family(String law) {
        OtherName x = Due.withLaw(law);
        Due.man(x, 0);
        Due.woman(x, 1);
        x.person(Due.FOUNDLING, Due.WOMAN, Due.NONE, Due.NONE, 2);
        Due.daughter(x, 0, 1);
        Due.son(x, 0, 2);
        Due.son(x, 4, 3);
        return x;
    }

    private static void rules() {
        Due.says("terms", "0 \"f\" the NAME of the FATHER");
        Due.names("f", family("f"), 0, 1, 2, 0, 0, 0);
        Due.says("terms", "1 \"m\" that of the MOTHER");
        Due.names("m", family("m"), 0, 1, 2, 1, 2, 1);

        Due.says("terms", "2 \"g\" that of the MOTHER's MOTHER (of the MOTHER, if she has none)");
        OtherName x = family("g");
        Due.names("g", x, 0, 1, 2, 1, 2, 1);
        // 3 has the name of 0 as a heir, yet her mother's name is 1.
        x = Due.withLaw("g");
        Due.man(x, 0);
        Due.woman(x, 1);
        Due.born(x, Due.HEIR, Due.WOMAN, 0, 1);
        Due.son(x, 0, 2);
        Due.son(x, 3, 1);
        Due.names("g of a mother with another name", x, 0, 1, 0, 1, 1);

        // The mother's mother is person 0.
        x = Due.withLaw("g");
        Due.woman(x, 1);
        Due.man(x, 4);
        Due.born(x, Due.HEIR, Due.WOMAN, 1, 0);
        Due.son(x, 1, 2);
        Due.names("g of the very first", x, 1, 4, 4, 1);

        Due.says("terms", "3 \"p\" that of the FATHER's MOTHER (of the FATHER, if he has none)");
        Due.names("p", family("p"), 0, 1, 2, 0, 0, 2);
        x = Due.withLaw("p");
        Due.woman(x, 1);
        Due.man(x, 4);
        Due.born(x, Due.HEIR, Due.MAN, 1, 0);
        Due.son(x, 2, 0);
        Due.names("p of the very first", x, 1, 4, 4, 1);

        Due.says("terms", "\"t\" and a RULE (for TWINS; \"m\", if it is not told)");
        String[] laws = {"p5p", "p", "ftf", "ftm", "ftg", "mtp", "f3gtp"};
        int[] due = {0, 0, 5, 0, 1, 2, 2};
        for (int i = 0; i < laws.length; i++) {
            // The mother is called 0 as the heir of 0; her mother is called 1, the father's mother 2.
            OtherName y = Due.withLaw(laws[i]);
            Due.man(y, 0);
            Due.woman(y, 1);
            Due.woman(y, 2);
            Due.born(y, Due.HEIR, Due.WOMAN, 0, 1);
            Due.man(y, 5);
            Due.born(y, Due.HEIR, Due.MAN, 4, 2);
            Due.born(y, Due.TWIN, Due.MAN, 5, 3);
            Due.due("a twin by " + laws[i], y.about(6, 4), due[i]);
        }
    }

    private static void rows() {
        Due.says("terms", "if by that a ROW would be as long as EVERY or longer, by the second RULE");
        for (int every = 2; every <= 5; every++) {
            OtherName x = Due.chain("f" + every + "m", 3, 1, 8);
            for (int i = 2; i < 8; i++) Due.due("every " + every + ", son " + i, x.about(i, 4), i < every ? 3 : 1);
        }
        // Every third generation the other name: 3 3 1 1 2 2 1, by mothers 1, 1, 2, 2, 1, 1.
        OtherName x = Due.withLaw("f3m");
        Due.man(x, 3);
        Due.woman(x, 1);
        Due.woman(x, 2);
        int[] mothers = {1, 1, 2, 2, 1, 1};
        for (int i = 0; i < 6; i++) Due.son(x, i == 0 ? 0 : i + 2, mothers[i]);
        Due.names("every third generation", x, 3, 1, 2, 3, 1, 1, 2, 2, 1);

        Due.says("terms", "if by that a ROW would be .. longer (by twins, who have it in spite of the ROW)");
        x = Due.withLaw("f2mtf");
        Due.man(x, 3);
        Due.woman(x, 1);
        for (int i = 2; i < 5; i++) Due.born(x, Due.TWIN, Due.MAN, i == 2 ? 0 : i - 1, 1);
        Due.son(x, 4, 1);
        Due.names("twins by f", x, 3, 1, 3, 3, 3, 1);

        Due.says("terms", "by the second RULE (whatever ROW that makes)");
        Due.names("f2f", Due.chain("f2f", 3, 1, 6), 3, 1, 3, 3, 3, 3);
        Due.names("f3m with one name", Due.chain("f3m", 4, 4, 6), 4, 4, 4, 4, 4, 4);

        Due.says("terms", "a RULE, then perhaps EVERY (without it no ROW is too long)");
        OtherName all = Due.chain("f", 3, 1, 12);
        for (int i = 2; i < 12; i++) Due.due("son " + i, all.about(i, 4), 3);
    }

    private static void rowsGoByFathers() {
        Due.says("terms", "a ROW: the CHILD, its FATHER, his FATHER and so on, as long as all have that NAME");
        // By m the child would be called 5, as its father is: a row of two, so it is called by g.
        OtherName x = Due.withLaw("m2g");
        Due.man(x, 5);
        Due.woman(x, 1);
        Due.born(x, Due.HEIR, Due.WOMAN, 0, 1);
        Due.son(x, 0, 2);
        Due.names("the father has the mother's name", x, 5, 1, 5, 1);
        // The mother and her father have it, the child's father has not: a row of one.
        x = Due.withLaw("m2p");
        Due.man(x, 5);
        Due.woman(x, 1);
        Due.born(x, Due.HEIR, Due.WOMAN, 0, 1);
        Due.man(x, 4);
        Due.son(x, 3, 2);
        Due.names("mothers make no row", x, 5, 1, 5, 4, 5);
        // By p the last one is called 4, as its father's father is; but its father is called 2: a row of one.
        x = Due.withLaw("p2mtg");
        Due.man(x, 4);
        Due.woman(x, 2);
        Due.born(x, Due.HEIR, Due.WOMAN, 0, 1);
        Due.born(x, Due.TWIN, Due.MAN, 0, 2);
        Due.son(x, 3, 1);
        Due.names("a row ends at the first who has it not", x, 4, 2, 4, 2, 4);
        // The row goes on by way of a twin and of a heir who have that name.
        x = Due.withLaw("f4mtf");
        Due.man(x, 3);
        Due.woman(x, 1);
        Due.born(x, Due.TWIN, Due.MAN, 0, 1);
        Due.born(x, Due.HEIR, Due.MAN, 2, 1);
        Due.son(x, 3, 1);
        Due.names("a row of all kinds", x, 3, 1, 3, 3, 1);
        // A row goes on by way of him who counts for a gap.
        x = Due.withLaw("f3m");
        Due.man(x, 3);
        Due.woman(x, 1);
        Due.son(x, Due.GAP, 1);
        Due.son(x, 2, 1);
        Due.names("a row over a gap", x, 3, 1, 3, 1);
    }

    private static void twins() {
        Due.says("terms", "That of a TWIN: by the RULE for TWINS.");
        OtherName x = Due.withLaw("f2m");
        Due.man(x, 3);
        Due.woman(x, 1);
        Due.born(x, Due.TWIN, Due.MAN, 0, 1);
        Due.born(x, Due.TWIN, Due.WOMAN, 2, 1);
        Due.names("by m", x, 3, 1, 1, 1);
        x = Due.withLaw("m2mtf");
        Due.man(x, 3);
        Due.woman(x, 1);
        Due.born(x, Due.TWIN, Due.MAN, 0, 1);
        Due.born(x, Due.TWIN, Due.MAN, 0, 1);
        Due.names("by f, each of them, whatever the row", x, 3, 1, 3, 3);
    }

    private static void heirs() {
        Due.says("terms", "That of an HEIR: its FATHER's, if nobody of less number with the same FATHER has it");
        OtherName x = Due.withLaw("m2m");
        Due.man(x, 3);
        Due.woman(x, 1);
        for (int i = 2; i < 6; i++) Due.born(x, Due.HEIR, Due.MAN, i == 2 ? 0 : i - 1, 1);
        Due.names("whatever the row and the law", x, 3, 1, 3, 3, 3, 3);
        x = Due.withLaw("m");
        Due.man(x, 3);
        Due.woman(x, 1);
        Due.son(x, 0, 1);
        Due.born(x, Due.TWIN, Due.MAN, 0, 1);
        Due.born(x, Due.HEIR, Due.MAN, 0, 1);
        Due.names("those ahead have another name", x, 3, 1, 1, 1, 3);

        Due.says("terms", "nobody of less number (one of greater number does not count)");
        x = Due.withLaw("f");
        Due.man(x, 3);
        Due.woman(x, 1);
        Due.born(x, Due.HEIR, Due.MAN, 0, 1);
        Due.son(x, 0, 1);
        Due.names("a child behind has it", x, 3, 1, 3, 3);

        Due.says("terms", "with the same FATHER (the MOTHER does not count)");
        x = Due.withLaw("f");
        Due.man(x, 3);
        Due.woman(x, 1);
        Due.woman(x, 2);
        Due.son(x, 0, 1);
        Due.born(x, Due.HEIR, Due.WOMAN, 0, 2);
        Due.names("one of another mother has it", x, 3, 1, 2, 3, 2);
        x = Due.withLaw("f");
        Due.man(x, 3);
        Due.man(x, 3);
        Due.woman(x, 1);
        Due.son(x, 0, 2);
        Due.born(x, Due.HEIR, Due.WOMAN, 1, 2);
        Due.names("one of another father of that name has it", x, 3, 3, 1, 3, 3);

        Due.says("terms", "That of an HEIR: .. else as a TWIN.");
        String[] laws = {"f", "ftf", "ftm", "ftg", "mtp"};
        int[] third = {1, 3, 1, 1, 3};
        for (int i = 0; i < laws.length; i++) {
            x = Due.withLaw(laws[i]);
            Due.man(x, 3);
            Due.woman(x, 1);
            Due.born(x, Due.HEIR, Due.WOMAN, 0, 1);
            Due.born(x, Due.HEIR, Due.MAN, 0, 1);
            Due.names("the second heir by " + laws[i], x, 3, 1, 3, third[i]);
        }
        heirsBehindOthers();
    }

    private static void heirsBehindOthers() {
        Due.says("terms", "nobody of less number with the same FATHER has it (of any KIND, ALIVE or not)");
        int[] kinds = {Due.CHILD, Due.TWIN, Due.HEIR};
        for (int kind : kinds) {
            OtherName x = Due.withLaw("m");
            Due.man(x, 3);
            Due.woman(x, 3);
            Due.woman(x, 1);
            Due.born(x, kind, Due.MAN, 0, 1);
            x.dies(3);
            Due.born(x, Due.HEIR, Due.MAN, 0, 2);
            Due.names("behind kind " + kind, x, 3, 3, 1, 3, 1);
        }
        OtherName x = Due.withLaw("mtf");
        Due.man(x, 3);
        Due.woman(x, 1);
        Due.born(x, Due.TWIN, Due.MAN, 0, 1);
        Due.born(x, Due.HEIR, Due.MAN, 0, 1);
        Due.page(x, "mtg");
        x.law();
        Due.names("by g the twin has it not", x, 3, 1, 1, 3);
        Due.page(x, "f");
        x.law();
        x.call(1, 3);
        Due.names("by the mother's name, which is the same", x, 3, 3, 3, 3);

        Due.says("terms", "with the same FATHER (a GAP counts as the least man)");
        x = Due.withLaw("f");
        Due.man(x, 3);
        Due.woman(x, 1);
        Due.man(x, 4);
        Due.son(x, 0, 1);
        Due.born(x, Due.HEIR, Due.MAN, Due.GAP, 1);
        Due.born(x, Due.HEIR, Due.MAN, 2, 1);
        Due.names("a gap behind a known son", x, 3, 1, 4, 3, 1, 4);
        x = Due.withLaw("m");
        Due.man(x, 3);
        Due.woman(x, 1);
        Due.born(x, Due.HEIR, Due.MAN, Due.GAP, 1);
        Due.born(x, Due.HEIR, Due.MAN, Due.GAP, 1);
        Due.born(x, Due.HEIR, Due.MAN, 0, 1);
        Due.names("gaps behind a gap", x, 3, 1, 3, 1, 1);
    }

    private static void gaps() {
        Due.says("terms", "a GAP in place of the FATHER (not known; some man told ahead ..)");
        OtherName x = new OtherName();
        Due.due("nobody is there", Due.son(x, Due.GAP, 0), Due.UNKNOWN);
        Due.woman(x, 1);
        Due.woman(x, 2);
        long ahead = x.digest();
        Due.refused("women alone", x, ahead, Due.son(x, Due.GAP, 0), Due.UNKNOWN);
        Due.refused("women alone, a twin", x, ahead, Due.born(x, Due.TWIN, Due.MAN, Due.GAP, 0), Due.UNKNOWN);
        Due.refused("women alone, a heir", x, ahead, Due.born(x, Due.HEIR, Due.MAN, Due.GAP, 0), Due.UNKNOWN);
        Due.man(x, 4);
        Due.due("one man", Due.son(x, Due.GAP, 0), 3);

        Due.says("terms", "it counts as the least of these");
        Due.man(x, 5);
        Due.due("three men", Due.daughter(x, Due.GAP, 1), 5);
        Due.names("by the least man", x, 1, 2, 4, 4, 5, 4);
        Due.due("it is told as a gap", x.about(5, 2), Due.GAP);
        Due.due("generation of a child of 2 and 1", x.about(5, 7), 1);
        Due.due("near to the least man", x.near(5, 2), 1);
        Due.due("near to his child", x.near(5, 3), 2);
        Due.due("not near to a later man", x.near(5, 4), Due.NONE);
        x.dies(2);
        Due.due("a gap, the least man is dead", Due.son(x, Due.GAP, 1), 6);
        Due.due("he counts", x.about(6, 4), 4);
        Due.due("near to the dead", x.near(6, 2), 1);

        Due.says("terms", "others have .. or a GAP in place of the FATHER (three at most)");
        ahead = x.digest();
        Due.refused("a fourth", x, ahead, Due.son(x, Due.GAP, 1), Due.FULL);
        Due.due("with a father", Due.son(x, 4, 1), 7);
    }

    private static void kinds() {
        Due.says("terms", "All are CHILDREN; an HEIR is a TWIN, too.");
        OtherName x = new OtherName();
        Due.man(x, 0);
        Due.woman(x, 1);
        Due.son(x, 0, 1);
        Due.born(x, Due.TWIN, Due.MAN, 0, 1);
        x.person(Due.FOUNDLING, Due.MAN, Due.NONE, Due.NONE, 0);
        Due.born(x, Due.HEIR, Due.MAN, 0, 1);
        int[][] such = {{0, 0, -1, -1, -1}, {1, 1, -1, -1, -1}, {2, -1, -1, -1, -1}, {3, -1, 3, -1, -1}, {4, -1, -1, 4, -1},
            {5, -1, 5, -1, 5}};
        for (int i = 0; i < 6; i++) {
            for (int kind = 0; kind < 5; kind++) Due.due(i + " as " + kind, x.as(i, kind), such[i][kind]);
        }

        Due.says("terms", "FIRST ones and FOUNDLINGS have no parents (NONE), and a NAME that is told");
        for (int kind : new int[] {Due.FIRST, Due.FOUNDLING}) {
            OtherName y = new OtherName();
            Due.due("of kind " + kind, y.person(kind, Due.WOMAN, Due.NONE, Due.NONE, 5), 0);
            Due.due("father", y.about(0, 2), Due.NONE);
            Due.due("mother", y.about(0, 3), Due.NONE);
            Due.due("name", y.about(0, 4), 5);
            Due.due("told anew", y.call(0, 2), 5);
            Due.due("name", y.about(0, 4), 2);
        }
    }

    private static void generations() {
        Due.says("terms", "GENERATION: 0 of who has no parents, else one more than the greater one of both parents.");
        OtherName x = Due.withLaw("f");
        Due.man(x, 0);
        Due.woman(x, 1);
        Due.son(x, 0, 1);
        Due.daughter(x, 2, 1);
        Due.daughter(x, 0, 3);
        x.person(Due.FOUNDLING, Due.MAN, Due.NONE, Due.NONE, 0);
        Due.daughter(x, 5, 4);
        Due.daughter(x, Due.GAP, 6);
        Due.daughter(x, Due.GAP, 1);
        Due.son(x, 2, 8);
        int[] due = {0, 0, 1, 2, 3, 0, 4, 5, 1, 2};
        for (int i = 0; i < due.length; i++) Due.due("generation of " + i, x.about(i, 7), due[i]);
        OtherName y = Due.chain("f3g", 0, 1, 12);
        for (int i = 2; i < 12; i++) Due.due("the father's is the greater one, " + i, y.about(i, 7), i - 1);
    }

    public static void main(String[] args) {
        sixNames();
        rules();
        rows();
        rowsGoByFathers();
        twins();
        heirs();
        gaps();
        kinds();
        generations();
        Due.end("edges of names");
    }
}
