/** The edges of promises 7 to 12, a sentence each: who comes, what is told of one, and what becomes of one. */
public final class EdgesOfPeopleTest {
    private static final int[] WITH_PARENTS = {Due.CHILD, Due.TWIN, Due.HEIR};
    private static final int[] WITHOUT = {Due.FIRST, Due.FOUNDLING};

    /** 0 a woman, 1 a man, 2 a woman, 3 a man; nobody has parents. */
    private static OtherName four() {
        OtherName x = new OtherName();
        Due.woman(x, 1);
        Due.man(x, 2);
        Due.woman(x, 3);
        Due.man(x, 4);
        return x;
    }

    /** A man, a woman, and sons of theirs: as many as there can be. */
    private static OtherName twelve() {
        OtherName x = new OtherName();
        Due.man(x, 2);
        Due.woman(x, 4);
        for (int i = 2; i < 12; i++) Due.due("number " + i, Due.son(x, 0, 1), i);
        return x;
    }

    private static void personsNumber() {
        Due.says("7", "A PERSON: its number.");
        OtherName x = four();
        int next = 4;
        for (int kind : WITH_PARENTS) {
            Due.due("of kind " + kind, Due.born(x, kind, next % 2, 1, 0), next);
            Due.due("its kind", x.about(next, 0), kind);
            Due.due("its sex", x.about(next, 1), next % 2);
            Due.due("its father", x.about(next, 2), 1);
            Due.due("its mother", x.about(next, 3), 0);
            next++;
        }
        for (int kind : WITHOUT) {
            Due.due("of kind " + kind, x.person(kind, next % 2, Due.NONE, Due.NONE, 5), next);
            Due.due("its kind", x.about(next, 0), kind);
            Due.due("its sex", x.about(next, 1), next % 2);
            next++;
        }
        Due.due("the latest man as father", Due.son(x, 8, 7), 9);
    }

    private static void kindAndSex() {
        Due.says("7", "OUTSIDE: kind, sex");
        OtherName x = four();
        long ahead = x.digest();
        for (int kind : new int[] {-1, 5, Due.GAP}) {
            Due.refused("kind " + kind, x, ahead, x.person(kind, Due.MAN, 1, 0, 0), Due.OUTSIDE);
            Due.refused("kind " + kind + " of no parents", x, ahead, x.person(kind, Due.MAN, Due.NONE, Due.NONE, 0), Due.OUTSIDE);
        }
        for (int sex : new int[] {-1, 2, Due.GAP}) {
            Due.refused("sex " + sex, x, ahead, x.person(Due.CHILD, sex, 1, 0, 0), Due.OUTSIDE);
            Due.refused("sex " + sex + " of no parents", x, ahead, x.person(Due.FIRST, sex, Due.NONE, Due.NONE, 0), Due.OUTSIDE);
        }
        for (int far : Due.FAR) {
            Due.refused("kind " + far, x, ahead, x.person(far, Due.MAN, 1, 0, 0), Due.OUTSIDE);
            Due.refused("sex " + far, x, ahead, x.person(Due.CHILD, far, 1, 0, 0), Due.OUTSIDE);
        }
    }

    private static void parentsOfThoseWithNone() {
        Due.says("7", "UNKNOWN: father, mother (both NONE of who has no parents ..)");
        for (int kind : WITHOUT) {
            OtherName x = four();
            long ahead = x.digest();
            for (int father : new int[] {0, 1, 3, 4, Due.GAP, -3}) {
                Due.refused("father " + father, x, ahead, x.person(kind, Due.MAN, father, Due.NONE, 0), Due.UNKNOWN);
            }
            for (int mother : new int[] {0, 1, 2, 4, Due.GAP, -3}) {
                Due.refused("mother " + mother, x, ahead, x.person(kind, Due.MAN, Due.NONE, mother, 0), Due.UNKNOWN);
            }
            Due.refused("both", x, ahead, x.person(kind, Due.MAN, 1, 0, 0), Due.UNKNOWN);
            for (int far : Due.FAR) {
                Due.refused("father " + far, x, ahead, x.person(kind, Due.MAN, far, Due.NONE, 0), Due.UNKNOWN);
                Due.refused("mother " + far, x, ahead, x.person(kind, Due.MAN, Due.NONE, far, 0), Due.UNKNOWN);
            }
            Due.due("none", x.person(kind, Due.MAN, Due.NONE, Due.NONE, 0), 4);
        }
    }

    private static void parentsOfOthers() {
        Due.says("7", "UNKNOWN: father, mother (.. else as told): a man told ahead, a woman told ahead");
        for (int kind : WITH_PARENTS) {
            OtherName x = four();
            long ahead = x.digest();
            // A woman, one who is not there yet, nobody.
            for (int father : new int[] {0, 2, 4, 5, 11, 12, Due.NONE, -3}) {
                Due.refused("father " + father, x, ahead, Due.born(x, kind, Due.MAN, father, 0), Due.UNKNOWN);
            }
            for (int mother : new int[] {1, 3, 4, 5, 11, 12, Due.NONE, Due.GAP, -3}) {
                Due.refused("mother " + mother, x, ahead, Due.born(x, kind, Due.WOMAN, 1, mother), Due.UNKNOWN);
            }
            Due.refused("no parents", x, ahead, Due.born(x, kind, Due.MAN, Due.NONE, Due.NONE), Due.UNKNOWN);
            Due.refused("a gap, without a mother", x, ahead, Due.born(x, kind, Due.MAN, Due.GAP, Due.NONE), Due.UNKNOWN);
            Due.refused("a gap, with a man as mother", x, ahead, Due.born(x, kind, Due.MAN, Due.GAP, 3), Due.UNKNOWN);
            for (int far : Due.FAR) {
                Due.refused("father " + far, x, ahead, Due.born(x, kind, Due.MAN, far, 0), Due.UNKNOWN);
                Due.refused("mother " + far, x, ahead, Due.born(x, kind, Due.MAN, 1, far), Due.UNKNOWN);
            }
            Due.due("the last man and the first woman", Due.born(x, kind, Due.MAN, 3, 0), 4);
            Due.due("the first man and the last woman", Due.born(x, kind, Due.WOMAN, 1, 2), 5);
            Due.due("a gap and a daughter", Due.born(x, kind, Due.WOMAN, Due.GAP, 5), 6);
            Due.due("a son and a daughter", Due.born(x, kind, Due.WOMAN, 4, 6), 7);
        }

        Due.says("7", "a man told ahead, a woman told ahead (ALIVE or not; gone by restore() or not)");
        OtherName x = four();
        x.dies(0);
        x.dies(1);
        Due.due("of the dead", Due.son(x, 1, 0), 4);
        x.image();
        Due.due("a later one", Due.son(x, 4, 0), 5);
        Due.due("a later one", Due.daughter(x, 5, 0), 6);
        x.restore();
        long ahead = x.digest();
        Due.refused("a father who is gone", x, ahead, Due.son(x, 5, 0), Due.UNKNOWN);
        Due.refused("a mother who is gone", x, ahead, Due.son(x, 4, 6), Due.UNKNOWN);
    }

    private static void nameOfAPerson() {
        Due.says("7", "OUTSIDE: name (0 to 5 of who has no parents ..)");
        for (int kind : WITHOUT) {
            OtherName x = four();
            long ahead = x.digest();
            for (int name : new int[] {-1, 6, Due.GAP}) {
                Due.refused("name " + name, x, ahead, x.person(kind, Due.MAN, Due.NONE, Due.NONE, name), Due.OUTSIDE);
            }
            for (int far : Due.FAR) {
                Due.refused("name " + far, x, ahead, x.person(kind, Due.MAN, Due.NONE, Due.NONE, far), Due.OUTSIDE);
            }
            for (int name = 0; name < 6; name++) {
                Due.due("name " + name, x.person(kind, Due.MAN, Due.NONE, Due.NONE, name), 4 + name);
                Due.due("is it", x.about(4 + name, 4), name);
            }
        }

        Due.says("7", "OUTSIDE: name (.. else 0)");
        for (int kind : WITH_PARENTS) {
            OtherName x = four();
            long ahead = x.digest();
            for (int name : new int[] {-1, 1, 2, 5, 6, Due.GAP}) {
                Due.refused("name " + name, x, ahead, x.person(kind, Due.MAN, 1, 0, name), Due.OUTSIDE);
                Due.refused("name " + name + " with a gap", x, ahead, x.person(kind, Due.MAN, Due.GAP, 0, name), Due.OUTSIDE);
            }
            for (int far : Due.FAR) Due.refused("name " + far, x, ahead, x.person(kind, Due.MAN, 1, 0, far), Due.OUTSIDE);
            Due.due("name 0", x.person(kind, Due.MAN, 1, 0, 0), 4);
        }
    }

    private static void fullOfPeople() {
        Due.says("7", "FULL: 12 there are");
        OtherName x = twelve();
        Due.due("twelve", x.count(0), 12);
        long ahead = x.digest();
        for (int kind : WITH_PARENTS) Due.refused("kind " + kind, x, ahead, Due.born(x, kind, Due.MAN, 0, 1), Due.FULL);
        for (int kind : WITHOUT) {
            Due.refused("kind " + kind, x, ahead, x.person(kind, Due.MAN, Due.NONE, Due.NONE, 0), Due.FULL);
        }
        Due.refused("the first gap", x, ahead, Due.son(x, Due.GAP, 1), Due.FULL);
        Due.refused("the twelfth as father", x, ahead, Due.son(x, 11, 1), Due.FULL);

        Due.says("7", "FULL: .. or it would be a fourth GAP.");
        OtherName y = four();
        for (int i = 0; i < 3; i++) Due.due("gap " + i, Due.born(y, WITH_PARENTS[i], Due.MAN, Due.GAP, 0), 4 + i);
        long digest = y.digest();
        for (int kind : WITH_PARENTS) Due.refused("kind " + kind, y, digest, Due.born(y, kind, Due.WOMAN, Due.GAP, 0), Due.FULL);
        Due.due("a known father", Due.son(y, 1, 0), 7);
        Due.due("no parents", Due.man(y, 0), 8);
        Due.due("a gap still", Due.son(y, Due.GAP, 0), Due.FULL);
    }

    private static void orderOfRefusals() {
        Due.says("7", "OUTSIDE: kind, sex; UNKNOWN: father, mother; OUTSIDE: name; FULL (of several the first as told)");
        OtherName x = four();
        for (int i = 0; i < 3; i++) Due.son(x, Due.GAP, 0);
        long ahead = x.digest();
        Due.refused("kind and father", x, ahead, x.person(5, Due.MAN, 0, 0, 0), Due.OUTSIDE);
        Due.refused("sex and father", x, ahead, x.person(Due.CHILD, 2, 0, 0, 0), Due.OUTSIDE);
        Due.refused("sex and mother", x, ahead, x.person(Due.FIRST, 2, Due.NONE, 0, 0), Due.OUTSIDE);
        Due.refused("father and name", x, ahead, x.person(Due.CHILD, Due.MAN, 0, 0, 1), Due.UNKNOWN);
        Due.refused("mother and name", x, ahead, x.person(Due.CHILD, Due.MAN, 1, 1, 1), Due.UNKNOWN);
        Due.refused("father and name, no parents", x, ahead, x.person(Due.FIRST, Due.MAN, 1, Due.NONE, 6), Due.UNKNOWN);
        Due.refused("mother and name, no parents", x, ahead, x.person(Due.FIRST, Due.MAN, Due.NONE, 0, 6), Due.UNKNOWN);
        Due.refused("sex and a fourth gap", x, ahead, x.person(Due.CHILD, 2, Due.GAP, 0, 0), Due.OUTSIDE);
        Due.refused("mother and a fourth gap", x, ahead, x.person(Due.CHILD, Due.MAN, Due.GAP, 1, 0), Due.UNKNOWN);
        Due.refused("name and a fourth gap", x, ahead, x.person(Due.CHILD, Due.MAN, Due.GAP, 0, 1), Due.OUTSIDE);
        OtherName y = twelve();
        ahead = y.digest();
        Due.refused("kind and twelve", y, ahead, y.person(-1, Due.MAN, 0, 1, 0), Due.OUTSIDE);
        Due.refused("sex and twelve", y, ahead, y.person(Due.CHILD, -1, 0, 1, 0), Due.OUTSIDE);
        Due.refused("father and twelve", y, ahead, y.person(Due.CHILD, Due.MAN, 12, 1, 0), Due.UNKNOWN);
        Due.refused("mother and twelve", y, ahead, y.person(Due.CHILD, Due.MAN, 0, 12, 0), Due.UNKNOWN);
        Due.refused("name and twelve", y, ahead, y.person(Due.CHILD, Due.MAN, 0, 1, 5), Due.OUTSIDE);
        Due.refused("a first's name and twelve", y, ahead, y.person(Due.FIRST, Due.MAN, Due.NONE, Due.NONE, 6), Due.OUTSIDE);
    }

    private static void about() {
        Due.says("8", "2 FATHER (GAP; NONE), 3 MOTHER (NONE), .. 5 WRITTEN (NONE), 6 whether it is ALIVE (1, 0), 7 GENERATION");
        OtherName x = four();
        Due.born(x, Due.HEIR, Due.WOMAN, Due.GAP, 2);
        Due.born(x, Due.TWIN, Due.MAN, 3, 4);
        int[][] due = {{Due.FIRST, Due.WOMAN, Due.NONE, Due.NONE, 1, Due.NONE, 1, 0}, {Due.HEIR, Due.WOMAN, Due.GAP, 2, 2, Due.NONE, 1, 1},
            {Due.TWIN, Due.MAN, 3, 4, 2, Due.NONE, 1, 2}};
        int[] who = {0, 4, 5};
        for (int i = 0; i < 3; i++) {
            for (int what = 0; what < 8; what++) Due.due("of " + who[i] + " " + what, x.about(who[i], what), due[i][what]);
        }
        x.write(4, 0);
        x.dies(5);
        Due.due("written 0", x.about(4, 5), 0);
        Due.due("not alive", x.about(5, 6), 0);

        Due.says("8", "UNKNOWN; OUTSIDE.");
        unknownPerson(x, 6);
        long ahead = x.digest();
        for (int what : new int[] {-1, 8}) {
            Due.refused("what = " + what, x, ahead, x.about(0, what), Due.OUTSIDE);
            Due.refused("what = " + what + " of nobody", x, ahead, x.about(6, what), Due.UNKNOWN);
        }
        for (int far : Due.FAR) {
            Due.refused("what = " + far, x, ahead, x.about(5, far), Due.OUTSIDE);
            Due.refused("of " + far, x, ahead, x.about(far, 0), Due.UNKNOWN);
        }
        Due.due("the twelfth", twelve().about(11, 1), Due.MAN);
        Due.due("the thirteenth", twelve().about(12, 1), Due.UNKNOWN);
    }

    /** Numbers just outside those that there are, of each call that takes a person's number. */
    private static void unknownPerson(OtherName x, int size) {
        long ahead = x.digest();
        for (int i : new int[] {-1, Due.GAP, size, size + 1, 12, 13}) {
            Due.refused("about " + i, x, ahead, x.about(i, 0), Due.UNKNOWN);
            Due.refused("as " + i, x, ahead, x.as(i, 0), Due.UNKNOWN);
            Due.refused("call " + i, x, ahead, x.call(i, 0), Due.UNKNOWN);
            Due.refused("write " + i, x, ahead, x.write(i, 0), Due.UNKNOWN);
            Due.refused("dies " + i, x, ahead, x.dies(i), Due.UNKNOWN);
        }
    }

    private static void as() {
        Due.says("9", "A PERSON taken as a KIND: its number; NONE: it is none such (the cast fails).");
        OtherName x = four();
        Due.born(x, Due.TWIN, Due.MAN, 1, 0);
        Due.born(x, Due.HEIR, Due.MAN, 1, 0);
        Due.due("a twin is no heir", x.as(4, Due.HEIR), Due.NONE);
        Due.due("a heir is a twin", x.as(5, Due.TWIN), 5);
        Due.due("a first is no foundling", x.as(0, Due.FOUNDLING), Due.NONE);
        Due.due("0 as a child: its number is 0", x.as(0, Due.CHILD), 0);

        Due.says("9", "UNKNOWN; OUTSIDE.");
        long ahead = x.digest();
        for (int kind : new int[] {-1, 5}) {
            Due.refused("kind " + kind, x, ahead, x.as(5, kind), Due.OUTSIDE);
            Due.refused("kind " + kind + " of nobody", x, ahead, x.as(6, kind), Due.UNKNOWN);
        }
        for (int far : Due.FAR) {
            Due.refused("kind " + far, x, ahead, x.as(5, far), Due.OUTSIDE);
            Due.refused("of " + far, x, ahead, x.as(far, 0), Due.UNKNOWN);
        }
    }

    private static void call() {
        Due.says("10", "The NAME that is told of one becomes v: what it was.");
        OtherName x = four();
        x.person(Due.FOUNDLING, Due.MAN, Due.NONE, Due.NONE, 0);
        Due.son(x, 4, 0);
        for (int v = 0; v < 6; v++) {
            Due.due("called " + v, x.call(4, v), v == 0 ? 0 : v - 1);
            Due.due("its name", x.about(4, 4), v);
            Due.due("its son's name", x.about(5, 4), v);
        }
        Due.due("the same again", x.call(4, 5), 5);
        x.dies(4);
        Due.due("of the dead", x.call(4, 1), 5);

        Due.says("10", "UNKNOWN; STATE: it has parents; OUTSIDE.");
        Due.born(x, Due.TWIN, Due.MAN, Due.GAP, 0);
        Due.born(x, Due.HEIR, Due.MAN, 3, 0);
        long ahead = x.digest();
        for (int i = 5; i < 8; i++) {
            Due.refused("with parents " + i, x, ahead, x.call(i, 0), Due.STATE);
            Due.refused("with parents, outside " + i, x, ahead, x.call(i, 6), Due.STATE);
        }
        for (int v : new int[] {-1, 6, Due.GAP}) {
            Due.refused("called " + v, x, ahead, x.call(0, v), Due.OUTSIDE);
            Due.refused("nobody called " + v, x, ahead, x.call(8, v), Due.UNKNOWN);
        }
        for (int far : Due.FAR) {
            Due.refused("called " + far, x, ahead, x.call(3, far), Due.OUTSIDE);
            Due.refused("of " + far, x, ahead, x.call(far, 0), Due.UNKNOWN);
        }
    }

    private static void write() {
        Due.says("11", "What is WRITTEN of one becomes v (NONE to 5): what it was.");
        OtherName x = twelve();
        int was = Due.NONE;
        for (int v = -1; v < 6; v++) {
            Due.due("written " + v, x.write(11, v), was);
            Due.due("is written", x.about(11, 5), v);
            Due.due("entries", x.count(3), v == Due.NONE ? 0 : 1);
            was = v;
        }
        Due.due("the same again", x.write(11, 5), 5);
        Due.due("nothing", x.write(11, Due.NONE), 5);
        Due.due("nothing again", x.write(11, Due.NONE), Due.NONE);
        x.dies(0);
        Due.due("of the dead", x.write(0, 3), Due.NONE);
        Due.due("its name stays", x.about(0, 4), 2);

        Due.says("2", "a NAME, or nothing (NONE; at first)");
        for (int i = 1; i < 12; i++) Due.due("of " + i, x.about(i, 5), Due.NONE);

        Due.says("11", "UNKNOWN; OUTSIDE.");
        long ahead = x.digest();
        for (int v : new int[] {Due.GAP, 6}) {
            Due.refused("written " + v, x, ahead, x.write(0, v), Due.OUTSIDE);
            Due.refused("written " + v + " of nobody", x, ahead, x.write(12, v), Due.UNKNOWN);
        }
        for (int far : Due.FAR) {
            Due.refused("written " + far, x, ahead, x.write(0, far), Due.OUTSIDE);
            Due.refused("of " + far, x, ahead, x.write(far, 0), Due.UNKNOWN);
        }
    }

    private static void dies() {
        Due.says("12", "One dies: how many are ALIVE then.");
        OtherName x = twelve();
        Due.due("all are alive at first", x.count(2), 12);
        for (int i = 11; i >= 0; i--) {
            Due.due("alive " + i, x.about(i, 6), 1);
            Due.due("dies " + i, x.dies(i), i);
            Due.due("not alive " + i, x.about(i, 6), 0);
        }

        Due.says("12", "UNKNOWN; STATE: it is not ALIVE.");
        long ahead = x.digest();
        for (int i = 0; i < 12; i++) Due.refused("again " + i, x, ahead, x.dies(i), Due.STATE);
        for (int i : new int[] {-1, 12, Due.GAP}) Due.refused("nobody " + i, x, ahead, x.dies(i), Due.UNKNOWN);
        for (int far : Due.FAR) Due.refused("nobody " + far, x, ahead, x.dies(far), Due.UNKNOWN);
        OtherName y = new OtherName();
        Due.due("where nobody is", y.dies(0), Due.UNKNOWN);
        Due.man(y, 0);
        y.image();
        y.dies(0);
        y.restore();
        Due.due("alive again, by an image", y.dies(0), 0);
    }

    public static void main(String[] args) {
        personsNumber();
        kindAndSex();
        parentsOfThoseWithNone();
        parentsOfOthers();
        nameOfAPerson();
        fullOfPeople();
        orderOfRefusals();
        about();
        as();
        call();
        write();
        dies();
        Due.end("edges of people");
    }
}
