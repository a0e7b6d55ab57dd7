/** Each promise of the document by hand: ordinary inputs, the edges it names, and wrong inputs. */
public final class PromiseTest {
    private static final int NONE = OtherName.NONE, GAP = OtherName.GAP, UNKNOWN = OtherName.UNKNOWN,
            OUTSIDE = OtherName.OUTSIDE, STATE = OtherName.STATE, FULL = OtherName.FULL;
    private static final int CHILD = 0, FIRST = 1, TWIN = 2, FOUNDLING = 3, HEIR = 4;
    private static final int MAN = 0, WOMAN = 1;
    private static final int F = 0, M = 1, G = 2, P = 3;
    private static final int[] FAR = {Integer.MIN_VALUE, -103, -3, 100, 65536, Integer.MAX_VALUE};

    private static int failures = 0;

    private static void due(String what, long got, long want) {
        if (got != want) {
            failures++;
            System.out.println(what + " answered " + got + ", due is " + want);
        }
    }

    private static long word(String text) {
        long w = 0;
        for (int i = text.length() - 1; i >= 0; i--) {
            w = w << 8 | text.charAt(i);
        }
        return w;
    }

    private static OtherName withLaw(String text) {
        OtherName x = new OtherName();
        due("letters of " + text, x.letters(word(text)), text.length());
        due("law of " + text, x.law(), 1);
        return x;
    }

    private static int first(OtherName x, int sex, int name) {
        return x.person(FIRST, sex, NONE, NONE, name);
    }

    private static int born(OtherName x, int kind, int sex, int father, int mother) {
        return x.person(kind, sex, father, mother, 0);
    }

    private static void dueNames(String what, OtherName x, int... want) {
        due(what + ": people", x.count(0), want.length);
        for (int i = 0; i < want.length; i++) {
            due(what + ": name of " + i, x.about(i, 4), want[i]);
        }
    }

    /** The digest, folded from what the other calls answer. */
    private static long folded(OtherName x, String page) {
        long h = 601;
        for (int i = 0; i < 4; i++) h = 31 * h + x.lawTold(i);
        for (int p = 0; p < x.count(0); p++) {
            for (int i = 0; i < 8; i++) h = 31 * h + x.about(p, i);
            h = 31 * h + x.kin(p);
            h = 31 * h + x.sure(p);
            h = 31 * h + x.couples(10 + p);
        }
        for (int i = 0; i < 2; i++) h = 31 * h + x.wrong(i);
        h = 31 * h + x.ways();
        for (int i = 0; i < 4; i++) h = 31 * h + x.laws(i);
        for (int i = 0; i < 6; i++) h = 31 * h + x.lasts(i);
        for (int i = 0; i < page.length(); i++) h = 31 * h + page.charAt(i);
        for (int i = 0; i < 7; i++) h = 31 * h + x.count(i);
        return h;
    }

    /** Whether a refused call has left all that can be told as it was. */
    private static void dueRefused(String what, OtherName x, long digestAhead, int got, int want) {
        due(what, got, want);
        due(what + ": digest", x.digest(), digestAhead);
    }

    private static void newObject() {
        OtherName x = new OtherName();
        int[] law = {F, 3, G, M};
        for (int i = 0; i < 4; i++) due("1 lawTold " + i, x.lawTold(i), law[i]);
        for (int i = 0; i < 7; i++) due("1 count " + i, x.count(i), 0);
        due("1 restore", x.restore(), STATE);
        due("1 fault", x.fault(), 0);
        due("1 about", x.about(0, 0), UNKNOWN);
        // 601, then 0 3 2 1, 0 -1, 1, 68 0 0 -1, six zeros, seven zeros.
        long h = 601;
        int[] numbers = {0, 3, 2, 1, 0, -1, 1, 68, 0, 0, -1, 0, 0, 0, 0, 0, 0, 0, 0, 0, 0, 0, 0, 0};
        for (int n : numbers) h = 31 * h + n;
        due("1 digest", x.digest(), h);
    }

    private static void letters() {
        OtherName x = new OtherName();
        due("2 none", x.letters(0L), 0);
        due("2 three", x.letters(word("abc")), 3);
        due("2 eight", x.letters(word("\u0001~345678")), 11);
        long h = x.digest();
        due("2 digest", h, folded(x, "abc\u0001~345678"));
        dueRefused("2 code 127", x, h, x.letters(127L), OUTSIDE);
        dueRefused("2 code 128", x, h, x.letters(128L), OUTSIDE);
        dueRefused("2 code 255", x, h, x.letters(0xff61L), OUTSIDE);
        dueRefused("2 behind a 0", x, h, x.letters(0x610061L), OUTSIDE);
        dueRefused("2 behind a first 0", x, h, x.letters(0x6100L), OUTSIDE);
        dueRefused("2 high byte", x, h, x.letters(Long.MIN_VALUE), OUTSIDE);
        dueRefused("2 all ones", x, h, x.letters(-1L), OUTSIDE);
        dueRefused("2 six more", x, h, x.letters(word("abcdef")), FULL);
        dueRefused("2 outside ahead of full", x, h, x.letters(word("abcdefg") | 127L << 56), OUTSIDE);
        due("2 five more", x.letters(word("abcde")), 16);
        due("2 none more", x.letters(0L), 16);
        due("2 one more", x.letters(1L), FULL);
        due("2 count", x.count(4), 16);
    }

    private static void blank() {
        OtherName x = new OtherName();
        due("3 of nothing", x.blank(), 0);
        x.letters(word("f3gtm"));
        due("3 of five", x.blank(), 5);
        due("3 count", x.count(4), 0);
        due("3 again", x.blank(), 0);
        due("3 letters", x.letters(word("m")), 1);
        due("3 law", x.law(), 1);
        due("3 read", x.lawTold(0), M);
    }

    private static void fault() {
        String[] texts = {"", "f", "m", "g", "p", "f3", "f3g", "f3gt", "f3gtm", "f3gtmf", "t", "3", "f1", "f6", "f2", "f5",
            "ff", "f33", "f3t", "ft", "ftt", "ftp", "ftf3", "F", "f3g4", "f3gtt", "f3gm", " f", "f ", "x", "fx3", "f3gtg ", "tf"};
        int[] want = {0, 1, 1, 1, 1, 2, 3, 4, 5, 5, 0, 0, 1, 1, 2, 2,
            1, 2, 2, 2, 2, 3, 3, 0, 3, 4, 3, 0, 1, 0, 1, 5, 0};
        for (int i = 0; i < texts.length; i++) {
            OtherName x = new OtherName();
            x.letters(word(texts[i]));
            due("4 fault of '" + texts[i] + "'", x.fault(), want[i]);
            due("4 the page stays '" + texts[i] + "'", x.count(4), texts[i].length());
        }
        OtherName x = new OtherName();
        x.letters(word("f3gtmf3g"));
        x.letters(word("f3gtmf3g"));
        due("4 of sixteen", x.fault(), 5);
    }

    private static void law() {
        String[] none = {"", "f3", "f3gt", "ft", "x", "f3gtmm", "3", "t", "f3gg", "f6g", "fm"};
        for (String text : none) {
            OtherName x = new OtherName();
            x.letters(word(text));
            long h = x.digest();
            dueRefused("5 law of '" + text + "'", x, h, x.law(), STATE);
        }
        OtherName x = new OtherName();
        x.letters(word("p"));
        x.letters(word("5"));
        x.letters(word("mtg"));
        due("5 first", x.law(), 1);
        due("5 empty then", x.count(4), 0);
        due("5 again", x.law(), STATE);
        x.letters(word("g"));
        due("5 second", x.law(), 2);
        due("5 another one is gone: twins", x.lawTold(3), M);
        due("5 another one is gone: every", x.lawTold(1), 0);
        due("5 count", x.count(5), 2);
        first(x, MAN, 1);
        first(x, WOMAN, 2);
        born(x, CHILD, MAN, 0, 1);
        due("5 by the law", x.about(2, 4), 2);
        x.letters(word("f"));
        due("5 third", x.law(), 3);
        due("5 named anew", x.about(2, 4), 1);
    }

    private static void lawTold() {
        String[] texts = {"f", "m", "g", "p", "f2f", "m3m", "g4g", "p5p", "ftf", "mtm", "gtg", "ptp", "f3gtp", "p5mtg"};
        int[][] want = {{F, 0, NONE, M}, {M, 0, NONE, M}, {G, 0, NONE, M}, {P, 0, NONE, M},
            {F, 2, F, M}, {M, 3, M, M}, {G, 4, G, M}, {P, 5, P, M},
            {F, 0, NONE, F}, {M, 0, NONE, M}, {G, 0, NONE, G}, {P, 0, NONE, P}, {F, 3, G, P}, {P, 5, M, G}};
        for (int i = 0; i < texts.length; i++) {
            OtherName x = withLaw(texts[i]);
            for (int k = 0; k < 4; k++) due("6 lawTold " + k + " of " + texts[i], x.lawTold(k), want[i][k]);
            due("6 below", x.lawTold(-1), OUTSIDE);
            due("6 above", x.lawTold(4), OUTSIDE);
            for (int far : FAR) due("6 far", x.lawTold(far), OUTSIDE);
        }
    }

    private static void person() {
        OtherName x = new OtherName();
        due("7 a gap without a man", x.person(CHILD, MAN, GAP, 0, 0), UNKNOWN);
        due("7 woman", first(x, WOMAN, 5), 0);
        due("7 a gap without a man, with a mother", x.person(CHILD, MAN, GAP, 0, 0), UNKNOWN);
        due("7 man", x.person(FOUNDLING, MAN, NONE, NONE, 0), 1);
        long h = x.digest();
        dueRefused("7 kind -1", x, h, x.person(-1, 9, 9, 9, 9), OUTSIDE);
        dueRefused("7 kind 5", x, h, x.person(5, MAN, 1, 0, 0), OUTSIDE);
        dueRefused("7 sex -1", x, h, x.person(CHILD, -1, 1, 0, 0), OUTSIDE);
        dueRefused("7 sex 2 ahead of father", x, h, x.person(CHILD, 2, 9, 0, 0), OUTSIDE);
        for (int far : FAR) {
            dueRefused("7 kind", x, h, x.person(far, MAN, 1, 0, 0), OUTSIDE);
            dueRefused("7 sex", x, h, x.person(CHILD, far, 1, 0, 0), OUTSIDE);
            dueRefused("7 father", x, h, x.person(CHILD, MAN, far, 0, 0), UNKNOWN);
            dueRefused("7 mother", x, h, x.person(CHILD, MAN, 1, far, 0), UNKNOWN);
            dueRefused("7 name", x, h, x.person(CHILD, MAN, 1, 0, far), OUTSIDE);
            dueRefused("7 founder's name", x, h, x.person(FIRST, MAN, NONE, NONE, far), OUTSIDE);
        }
        dueRefused("7 a woman as father", x, h, x.person(CHILD, MAN, 0, 0, 0), UNKNOWN);
        dueRefused("7 a man as mother", x, h, x.person(CHILD, MAN, 1, 1, 0), UNKNOWN);
        dueRefused("7 itself as father", x, h, x.person(CHILD, MAN, 2, 0, 0), UNKNOWN);
        dueRefused("7 itself as mother", x, h, x.person(CHILD, WOMAN, 1, 2, 0), UNKNOWN);
        dueRefused("7 no father", x, h, x.person(TWIN, MAN, NONE, 0, 0), UNKNOWN);
        dueRefused("7 no mother", x, h, x.person(HEIR, MAN, 1, NONE, 0), UNKNOWN);
        dueRefused("7 a gap as mother", x, h, x.person(CHILD, MAN, 1, GAP, 0), UNKNOWN);
        dueRefused("7 first with father", x, h, x.person(FIRST, MAN, 1, NONE, 0), UNKNOWN);
        dueRefused("7 first with mother", x, h, x.person(FIRST, MAN, NONE, 0, 0), UNKNOWN);
        dueRefused("7 foundling with a gap", x, h, x.person(FOUNDLING, MAN, GAP, NONE, 0), UNKNOWN);
        dueRefused("7 foundling with parents", x, h, x.person(FOUNDLING, MAN, 1, 0, 0), UNKNOWN);
        dueRefused("7 father ahead of name", x, h, x.person(CHILD, MAN, 7, 0, 7), UNKNOWN);
        dueRefused("7 first's name 6", x, h, first(x, MAN, 6), OUTSIDE);
        dueRefused("7 first's name -1", x, h, first(x, MAN, -1), OUTSIDE);
        dueRefused("7 child's name 1", x, h, x.person(CHILD, MAN, 1, 0, 1), OUTSIDE);
        dueRefused("7 child's name -1", x, h, x.person(CHILD, MAN, GAP, 0, -1), OUTSIDE);
        for (int i = 2; i < 5; i++) due("7 gap " + i, x.person(i == 4 ? HEIR : i == 3 ? TWIN : CHILD, MAN, GAP, 0, 0), i);
        h = x.digest();
        dueRefused("7 fourth gap", x, h, x.person(CHILD, MAN, GAP, 0, 0), FULL);
        dueRefused("7 name ahead of full", x, h, x.person(CHILD, MAN, GAP, 0, 3), OUTSIDE);
        for (int i = 5; i < 12; i++) due("7 number " + i, born(x, CHILD, i % 2, i % 2 == 0 ? 1 : 2, 0), i);
        h = x.digest();
        dueRefused("7 thirteenth", x, h, born(x, CHILD, MAN, 1, 0), FULL);
        dueRefused("7 thirteenth first", x, h, first(x, MAN, 5), FULL);
        dueRefused("7 thirteenth's name", x, h, first(x, MAN, 6), OUTSIDE);
        dueRefused("7 thirteenth's father", x, h, born(x, CHILD, MAN, 12, 0), UNKNOWN);
        dueRefused("7 thirteenth's kind", x, h, born(x, 5, MAN, 12, 0), OUTSIDE);
        due("7 all", x.count(0), 12);
    }

    private static void about() {
        OtherName x = new OtherName();
        first(x, WOMAN, 4);
        x.person(FOUNDLING, MAN, NONE, NONE, 2);
        born(x, TWIN, WOMAN, 1, 0);
        born(x, HEIR, MAN, GAP, 2);
        born(x, CHILD, MAN, 3, 0);
        int[][] want = {{FIRST, WOMAN, NONE, NONE, 4, NONE, 1, 0}, {FOUNDLING, MAN, NONE, NONE, 2, NONE, 1, 0},
            {TWIN, WOMAN, 1, 0, 4, NONE, 1, 1}, {HEIR, MAN, GAP, 2, 2, NONE, 1, 2}, {CHILD, MAN, 3, 0, 4, NONE, 1, 3}};
        for (int i = 0; i < want.length; i++) {
            for (int k = 0; k < 8; k++) due("8 about " + i + " " + k, x.about(i, k), want[i][k]);
            due("8 below", x.about(i, -1), OUTSIDE);
            due("8 above", x.about(i, 8), OUTSIDE);
            for (int far : FAR) due("8 far", x.about(i, far), OUTSIDE);
        }
        due("8 nobody", x.about(5, 0), UNKNOWN);
        due("8 nobody ahead of what", x.about(-1, 9), UNKNOWN);
        for (int far : FAR) due("8 far", x.about(far, 0), UNKNOWN);
        // The least man is 1, not the latest one: his name, his generation.
        born(x, CHILD, WOMAN, GAP, 0);
        due("8 a gap's father counts as the least", x.about(5, 7), 1);
        due("8 a gap's name", x.about(5, 4), 2);
    }

    /** 0 man, 1 woman, 2 woman, 3 son of 0 and 1, 4 daughter of 0 and 2; then one of 3 and 4. */
    private static OtherName cousins(String law) {
        OtherName x = withLaw(law);
        first(x, MAN, 0);
        first(x, WOMAN, 1);
        first(x, WOMAN, 2);
        born(x, CHILD, MAN, 0, 1);
        born(x, CHILD, WOMAN, 0, 2);
        born(x, CHILD, MAN, 3, 4);
        return x;
    }

    private static void names() {
        dueNames("f", cousins("f"), 0, 1, 2, 0, 0, 0);
        dueNames("m", cousins("m"), 0, 1, 2, 1, 2, 2);
        dueNames("g", cousins("g"), 0, 1, 2, 1, 2, 2);
        dueNames("p", cousins("p"), 0, 1, 2, 0, 0, 1);
        dueNames("f2m", cousins("f2m"), 0, 1, 2, 1, 2, 2);
        dueNames("f2g", cousins("f2g"), 0, 1, 2, 1, 2, 2);
        dueNames("f3m", cousins("f3m"), 0, 1, 2, 0, 0, 0);
        dueNames("f3g", cousins("f3g"), 0, 1, 2, 0, 0, 2);
        dueNames("f3p", cousins("f3p"), 0, 1, 2, 0, 0, 1);
        dueNames("m2f", cousins("m2f"), 0, 1, 2, 1, 2, 2);
        rows();
        heirs();
    }

    private static void rows() {
        for (int every = 2; every <= 5; every++) {
            OtherName x = withLaw("f" + every + "m");
            first(x, MAN, 3);
            first(x, WOMAN, 1);
            for (int i = 2; i < 8; i++) born(x, CHILD, MAN, i == 2 ? 0 : i - 1, 1);
            for (int i = 2; i < 8; i++) {
                // Once the row is broken, the mother's name stands in a row of its own, and she has no other.
                due("8 row of " + every + ": " + i, x.about(i, 4), i < every ? 3 : 1);
            }
        }
        // The row goes up by fathers, whatever the first rule is: a mother of the father's name.
        OtherName x = withLaw("m2g");
        first(x, MAN, 4);
        first(x, WOMAN, 5);
        born(x, HEIR, WOMAN, 0, 1);
        born(x, CHILD, MAN, 0, 2);
        dueNames("8 m2g", x, 4, 5, 4, 5);
        // Heirs make a row that is longer than every.
        x = withLaw("f2m");
        first(x, MAN, 2);
        first(x, WOMAN, 0);
        born(x, HEIR, MAN, 0, 1);
        born(x, HEIR, MAN, 2, 1);
        born(x, CHILD, MAN, 3, 1);
        dueNames("8 longer rows", x, 2, 0, 2, 2, 0);
        // A row that was broken does not go on behind the break.
        x = withLaw("f3g");
        first(x, MAN, 2);
        first(x, WOMAN, 1);
        born(x, CHILD, MAN, 0, 1);
        born(x, TWIN, MAN, 2, 1);
        born(x, CHILD, MAN, 3, 1);
        first(x, WOMAN, 2);
        born(x, TWIN, MAN, 4, 5);
        born(x, CHILD, MAN, 6, 1);
        dueNames("8 broken rows", x, 2, 1, 2, 1, 1, 2, 2, 2);
    }

    private static void heirs() {
        OtherName x = withLaw("m");
        first(x, MAN, 3);
        first(x, WOMAN, 1);
        born(x, HEIR, MAN, 0, 1);
        born(x, HEIR, WOMAN, 0, 1);
        born(x, HEIR, MAN, GAP, 1);
        dueNames("8 the first heir alone", x, 3, 1, 3, 1, 1);
        x = withLaw("ftg");
        first(x, MAN, 3);
        first(x, WOMAN, 1);
        first(x, MAN, 4);
        born(x, CHILD, WOMAN, 2, 1);
        born(x, CHILD, MAN, 0, 1);
        born(x, HEIR, MAN, 0, 3);
        born(x, HEIR, MAN, 2, 1);
        born(x, HEIR, WOMAN, 4, 3);
        dueNames("8 a child of less number has it", x, 3, 1, 4, 4, 3, 1, 1, 3);
        x = withLaw("m");
        first(x, MAN, 3);
        first(x, WOMAN, 3);
        first(x, WOMAN, 5);
        first(x, MAN, 3);
        born(x, CHILD, MAN, 3, 1);
        born(x, HEIR, MAN, 0, 2);
        born(x, TWIN, MAN, 0, 2);
        born(x, HEIR, MAN, 0, 2);
        dueNames("8 a child of another father", x, 3, 3, 5, 3, 3, 3, 5, 5);
    }

    private static void as() {
        OtherName x = new OtherName();
        first(x, MAN, 0);
        x.person(FOUNDLING, WOMAN, NONE, NONE, 1);
        born(x, CHILD, MAN, 0, 1);
        born(x, TWIN, MAN, 0, 1);
        born(x, HEIR, MAN, 0, 1);
        boolean[][] such = {{true, true, false, false, false}, {true, false, false, true, false},
            {true, false, false, false, false}, {true, false, true, false, false}, {true, false, true, false, true}};
        for (int i = 0; i < 5; i++) {
            for (int k = 0; k < 5; k++) due("9 " + i + " as " + k, x.as(i, k), such[i][k] ? i : NONE);
            due("9 below", x.as(i, -1), OUTSIDE);
            due("9 above", x.as(i, 5), OUTSIDE);
            for (int far : FAR) due("9 far", x.as(i, far), OUTSIDE);
        }
        due("9 nobody ahead of kind", x.as(5, 5), UNKNOWN);
        due("9 nobody", x.as(-1, 0), UNKNOWN);
        for (int far : FAR) due("9 far", x.as(far, 0), UNKNOWN);
    }

    private static void call() {
        OtherName x = new OtherName();
        first(x, MAN, 2);
        first(x, WOMAN, 3);
        born(x, CHILD, MAN, 0, 1);
        long h = x.digest();
        dueRefused("10 nobody", x, h, x.call(3, 9), UNKNOWN);
        dueRefused("10 nobody", x, h, x.call(-1, 1), UNKNOWN);
        dueRefused("10 with parents", x, h, x.call(2, 9), STATE);
        dueRefused("10 name 6", x, h, x.call(0, 6), OUTSIDE);
        dueRefused("10 name -1", x, h, x.call(0, -1), OUTSIDE);
        for (int far : FAR) {
            dueRefused("10 far", x, h, x.call(far, 1), UNKNOWN);
            dueRefused("10 far name", x, h, x.call(1, far), OUTSIDE);
        }
        due("10 call", x.call(0, 5), 2);
        due("10 its name", x.about(0, 4), 5);
        due("10 its child's name", x.about(2, 4), 5);
        due("10 again", x.call(0, 0), 5);
        due("10 the other", x.call(1, 1), 3);
    }

    private static void write() {
        OtherName x = new OtherName();
        first(x, MAN, 2);
        long h = x.digest();
        dueRefused("11 nobody", x, h, x.write(1, 9), UNKNOWN);
        dueRefused("11 nobody", x, h, x.write(-1, 1), UNKNOWN);
        dueRefused("11 name 6", x, h, x.write(0, 6), OUTSIDE);
        dueRefused("11 gap", x, h, x.write(0, GAP), OUTSIDE);
        for (int far : FAR) {
            dueRefused("11 far", x, h, x.write(far, 1), UNKNOWN);
            dueRefused("11 far name", x, h, x.write(0, far), OUTSIDE);
        }
        due("11 first", x.write(0, 5), NONE);
        due("11 told", x.about(0, 5), 5);
        due("11 count", x.count(3), 1);
        due("11 then 0", x.write(0, 0), 5);
        due("11 then none", x.write(0, NONE), 0);
        due("11 count", x.count(3), 0);
        due("11 the name stays", x.about(0, 4), 2);
    }

    private static void dies() {
        OtherName x = new OtherName();
        due("12 nobody", x.dies(0), UNKNOWN);
        for (int i = 0; i < 3; i++) first(x, i % 2, i);
        due("12 one", x.dies(1), 2);
        long h = x.digest();
        dueRefused("12 again", x, h, x.dies(1), STATE);
        dueRefused("12 nobody", x, h, x.dies(3), UNKNOWN);
        dueRefused("12 nobody", x, h, x.dies(-1), UNKNOWN);
        for (int far : FAR) dueRefused("12 far", x, h, x.dies(far), UNKNOWN);
        due("12 not alive", x.about(1, 6), 0);
        due("12 alive", x.about(2, 6), 1);
        due("12 next", x.dies(0), 1);
        due("12 last", x.dies(2), 0);
        due("12 a child of the dead", born(x, CHILD, MAN, 0, 1), 3);
        due("12 count", x.count(2), 1);
    }

    private static void wrong() {
        OtherName x = cousins("f");
        due("13 none", x.wrong(0), 0);
        due("13 no first", x.wrong(1), NONE);
        x.write(5, 1);
        due("13 one", x.wrong(0), 1);
        due("13 the first", x.wrong(1), 5);
        x.write(0, 3);
        x.write(1, 1);
        x.write(4, 0);
        due("13 two", x.wrong(0), 2);
        due("13 the first", x.wrong(1), 0);
        x.write(0, 0);
        due("13 the first again", x.wrong(1), 5);
        due("13 below", x.wrong(-1), OUTSIDE);
        due("13 above", x.wrong(2), OUTSIDE);
        for (int far : FAR) due("13 far", x.wrong(far), OUTSIDE);
    }

    private static void mended() {
        OtherName x = new OtherName();
        due("14 nobody", x.mended(0), 0);
        for (int k = 1; k < 5; k++) due("14 nobody " + k, x.mended(k), NONE);
        x = cousins("f");
        x.write(0, 4);
        x.write(3, 4);
        x.write(4, 5);
        x.write(5, 5);
        x.write(2, 3);
        long was = x.digest();
        due("14 below", x.mended(-1), OUTSIDE);
        due("14 above", x.mended(5), OUTSIDE);
        for (int far : FAR) due("14 far", x.mended(far), OUTSIDE);
        due("14 refused ones do not count", x.digest(), was);
        due("14 of like ones the least", x.mended(0), 2);
        due("14 the first", x.mended(1), 4);
        due("14 the second is free", x.mended(2), 0);
        due("14 the third", x.mended(3), 3);
        due("14 no fourth", x.mended(4), NONE);
        due("14 nothing is called anew", x.about(0, 4), 0);
        due("14 count", x.count(6), 5);
        first(x, MAN, 0);
        x.write(6, 2);
        due("14 the fourth", x.mended(4), 2);
        first(x, MAN, 0);
        due("14 five of them", x.mended(0), STATE);
        due("14 outside ahead of state", x.mended(5), OUTSIDE);
        due("14 count", x.count(6), 6);
        lateMending();
    }

    private static void lateMending() {
        OtherName x = new OtherName();
        for (int i = 0; i < 40; i++) due("14 of nobody", x.mended(i % 5), i % 5 == 0 ? 0 : NONE);
        due("14 the 41st", x.mended(0), STATE);
        due("14 the 41st outside", x.mended(5), OUTSIDE);
        due("14 count", x.count(6), 40);
        x.image();
        x.restore();
        due("14 an image does not bring it back", x.mended(0), STATE);
        x = withLaw("m2f");
        first(x, MAN, 5);
        first(x, WOMAN, 5);
        born(x, CHILD, MAN, 0, 1);
        x.write(0, 3);
        x.write(2, 1);
        due("14 both as they tell", x.mended(0), 0);
        due("14 the father as written", x.mended(1), 3);
        due("14 the mother by her child", x.mended(2), 1);
        x = withLaw("f");
        first(x, MAN, 5);
        first(x, WOMAN, 5);
        born(x, CHILD, MAN, 0, 1);
        x.write(0, 4);
        x.write(2, 3);
        due("14 one of both", x.mended(0), 1);
        due("14 the least of like ones", x.mended(1), 3);
        due("14 the second free", x.mended(2), 0);
        // The last one has the name of 2, if those of 0 and 1 are alike, else that of 1: the first ones are least.
        x = withLaw("f3g");
        first(x, MAN, 5);
        first(x, WOMAN, 5);
        first(x, WOMAN, 5);
        born(x, TWIN, MAN, 0, 1);
        born(x, CHILD, MAN, 3, 2);
        x.write(4, 1);
        int[] want = {0, 0, 0, 1, NONE};
        for (int k = 0; k < 5; k++) due("14 the first ahead of the last " + k, x.mended(k), want[k]);
    }

    private static void ways() {
        OtherName x = new OtherName();
        due("15 nobody", x.ways(), 1);
        first(x, MAN, 1);
        due("15 no gaps", x.ways(), 1);
        x.write(0, 2);
        due("15 no gaps, an error", x.ways(), 0);
        x.write(0, NONE);
        first(x, WOMAN, 0);
        first(x, MAN, 2);
        born(x, CHILD, MAN, GAP, 1);
        due("15 two men", x.ways(), 2);
        first(x, MAN, 2);
        due("15 men told later", x.ways(), 2);
        born(x, CHILD, WOMAN, GAP, 1);
        due("15 two gaps", x.ways(), 8);
        born(x, HEIR, WOMAN, GAP, 1);
        due("15 three gaps", x.ways(), 32);
        x.write(3, 2);
        due("15 one is known by its name", x.ways(), 16);
        x.write(5, 2);
        // 3 is of 2; 5 is of 2, 3 or 4, of whom all have the name 2; of 3, the row is too long, but g is 0.
        due("15 rows", x.ways(), 8);
        x.write(5, 5);
        due("15 in no way", x.ways(), 0);
        due("15 names as before", x.about(3, 4), 1);
    }

    private static void sure() {
        OtherName x = new OtherName();
        first(x, MAN, 1);
        first(x, WOMAN, 0);
        first(x, MAN, 2);
        born(x, CHILD, MAN, GAP, 1);
        born(x, CHILD, MAN, 2, 1);
        due("16 not sure", x.sure(3), NONE);
        due("16 a father who is known", x.sure(4), 2);
        due("16 without parents", x.sure(0), NONE);
        x.write(3, 2);
        due("16 sure", x.sure(3), 2);
        x.write(3, 1);
        due("16 sure of the least", x.sure(3), 0);
        x.write(3, 4);
        due("16 in no way", x.sure(3), NONE);
        due("16 in no way, known", x.sure(4), NONE);
        due("16 nobody", x.sure(5), UNKNOWN);
        due("16 nobody", x.sure(-1), UNKNOWN);
        for (int far : FAR) due("16 far", x.sure(far), UNKNOWN);
        // A name that is another one only by way of the child whose father is not known.
        x = withLaw("f");
        first(x, MAN, 1);
        first(x, WOMAN, 0);
        first(x, MAN, 2);
        born(x, CHILD, MAN, GAP, 1);
        born(x, CHILD, MAN, GAP, 1);
        born(x, CHILD, MAN, 4, 1);
        x.write(5, 2);
        due("16 by a grandchild, not sure", x.sure(4), NONE);
        due("16 ways", x.ways(), 3);
        x.write(3, 1);
        due("16 by a grandchild, sure", x.sure(4), 2);
        due("16 ways", x.ways(), 1);
    }

    private static void laws() {
        OtherName x = new OtherName();
        int[] all = {68, F, 0, NONE};
        for (int k = 0; k < 4; k++) due("17 nobody " + k, x.laws(k), all[k]);
        due("17 below", x.laws(-1), OUTSIDE);
        due("17 above", x.laws(4), OUTSIDE);
        for (int far : FAR) due("17 far", x.laws(far), OUTSIDE);
        x = cousins("f");
        x.write(3, 0);
        x.write(5, 2);
        // No law of one rule alone names 3 after 0 and 5 after 2; which of the others do, each tells by itself.
        int[] one = {0, 0, 0, 0};
        int fits = 0;
        String rules = "fmgp";
        for (int a = 3; a >= 0; a--) {
            for (int every = 5; every >= 2; every--) {
                for (int b = 3; b >= 0; b--) {
                    OtherName y = cousins("" + rules.charAt(a) + every + rules.charAt(b));
                    if (y.about(3, 4) == 0 && y.about(5, 4) == 2) {
                        fits++;
                        one = new int[] {0, a, every, b};
                    }
                }
            }
        }
        one[0] = fits;
        for (int k = 0; k < 4; k++) due("17 of many " + k, x.laws(k), one[k]);
        due("17 the first is f3g: first", x.laws(1), F);
        due("17 the first is f3g: every", x.laws(2), 3);
        due("17 the first is f3g: second", x.laws(3), G);
        x.write(5, 1);
        int[] p = {0, P, 0, NONE};
        for (int k = 1; k < 4; k++) due("17 of one rule ahead " + k, x.laws(k), p[k]);
        x.write(5, 4);
        int[] none = {0, NONE, NONE, NONE};
        for (int k = 0; k < 4; k++) due("17 none " + k, x.laws(k), none[k]);
        due("17 the law stays", x.lawTold(0), F);
        x = withLaw("mtf");
        first(x, MAN, 1);
        first(x, WOMAN, 2);
        born(x, TWIN, MAN, 0, 1);
        x.write(2, 1);
        due("17 the rule for twins as it is", x.laws(0), 68);
        x.write(2, 2);
        due("17 the rule for twins as it is", x.laws(0), 0);
    }

    private static void near() {
        OtherName x = cousins("f");
        int[][] want = {{0, NONE, NONE, 1, 1, 2}, {NONE, 0, NONE, 1, NONE, 2}, {NONE, NONE, 0, NONE, 1, 2},
            {1, 1, NONE, 0, 2, 1}, {1, NONE, 1, 2, 0, 1}, {2, 2, 2, 1, 1, 0}};
        for (int a = 0; a < 6; a++) {
            for (int b = 0; b < 6; b++) due("18 near " + a + " " + b, x.near(a, b), want[a][b]);
            due("18 nobody b", x.near(a, 6), UNKNOWN);
            due("18 nobody a", x.near(-1, a), UNKNOWN);
            for (int far : FAR) due("18 far", x.near(a, far), UNKNOWN);
            for (int far : FAR) due("18 far", x.near(far, a), UNKNOWN);
        }
        // 6 is of the least man, whoever may have been its father, and of 1.
        born(x, CHILD, WOMAN, GAP, 1);
        due("18 a gap", x.near(6, 0), 1);
        due("18 half a sister", x.near(6, 4), 2);
        due("18 nephew", x.near(6, 5), 3);
        x.dies(6);
        due("18 the dead are near", x.near(6, 3), 2);
        born(x, CHILD, WOMAN, 3, 1);
        due("18 the shorter way is the mother's", x.near(7, 1), 1);
        due("18 the father's way alone", x.near(7, 0), 2);
        born(x, CHILD, WOMAN, 0, 4);
        due("18 the shorter way is the father's", x.near(0, 8), 1);
    }

    private static void kin() {
        OtherName x = cousins("f");
        int[] want = {3, 3, 4, 0, 0, 3};
        for (int i = 0; i < 6; i++) due("19 kin " + i, x.kin(i), want[i]);
        x.dies(0);
        due("19 the next one", x.kin(3), 1);
        due("19 of the dead", x.kin(0), 3);
        x.dies(2);
        due("19 only the child", x.kin(4), 5);
        x.dies(3);
        due("19 by two steps", x.kin(1), 5);
        due("19 by one", x.kin(5), 4);
        x.dies(5);
        due("19 nobody is kin", x.kin(1), NONE);
        first(x, WOMAN, 5);
        due("19 of none", x.kin(6), NONE);
        due("19 nobody", x.kin(7), UNKNOWN);
        due("19 nobody", x.kin(-1), UNKNOWN);
        for (int far : FAR) due("19 far", x.kin(far), UNKNOWN);
    }

    /** First cousins once removed: 0, 1 have 2 and 3; 2 has 6 of a stranger; 3 has 7 of one. */
    private static OtherName twoBranches() {
        OtherName x = withLaw("f");
        first(x, MAN, 0);
        first(x, WOMAN, 1);
        born(x, CHILD, MAN, 0, 1);
        born(x, CHILD, WOMAN, 0, 1);
        first(x, WOMAN, 2);
        first(x, MAN, 3);
        born(x, CHILD, MAN, 2, 4);
        born(x, CHILD, WOMAN, 5, 3);
        return x;
    }

    private static void may() {
        OtherName x = twoBranches();
        due("20 strangers", x.may(0, 1), 1);
        due("20 the other way", x.may(1, 0), 1);
        due("20 two men", x.may(0, 5), 0);
        due("20 two women", x.may(1, 4), 0);
        due("20 itself", x.may(0, 0), 0);
        due("20 near by 1", x.may(1, 2), 0);
        due("20 near by 3", x.may(2, 7), 0);
        due("20 near by 4", x.may(6, 7), 1);
        due("20 near by 4, the other way", x.may(7, 6), 1);
        x.call(5, 0);
        due("20 near by 4, of one name", x.may(6, 7), 0);
        x.call(5, 4);
        due("20 near by 4, of another name", x.may(6, 7), 1);
        x.dies(7);
        due("20 she is dead", x.may(6, 7), 0);
        x.dies(0);
        due("20 he is dead", x.may(0, 1), 0);
        due("20 nobody a", x.may(8, 0), UNKNOWN);
        due("20 nobody b", x.may(0, 8), UNKNOWN);
        due("20 nobody", x.may(-1, -1), UNKNOWN);
        for (int far : FAR) due("20 far", x.may(far, 0), UNKNOWN);
        for (int far : FAR) due("20 far", x.may(0, far), UNKNOWN);
    }

    private static void couples() {
        OtherName x = new OtherName();
        due("21 nobody", x.couples(0), 0);
        for (int i = 10; i < 22; i++) due("21 nobody " + i, x.couples(i), NONE);
        int[] outside = {-1, 1, 9, 22, 23};
        for (int what : outside) due("21 outside " + what, x.couples(what), OUTSIDE);
        for (int far : FAR) due("21 far", x.couples(far), OUTSIDE);
        // 0 could wed 1, but then 2 nobody: 2 must wed 1.
        first(x, MAN, 0);
        first(x, WOMAN, 1);
        first(x, MAN, 3);
        first(x, WOMAN, 3);
        dueCouples("21 the most", x, 3, 2, 1, 0);
        due("21 how many", x.couples(0), 2);
        // A man more: the first one can have the least, since the third takes 3.
        first(x, MAN, 5);
        dueCouples("21 the first takes the least", x, 1, 0, NONE, 4, 3);
        x.dies(4);
        dueCouples("21 without the dead", x, 3, 2, 1, 0, NONE);
        x.dies(3);
        dueCouples("21 rather than nobody", x, 1, 0, NONE, NONE, NONE);
        due("21 how many", x.couples(0), 1);
        // One woman for three men: the first one who can.
        x = new OtherName();
        first(x, WOMAN, 2);
        for (int i = 0; i < 3; i++) first(x, MAN, 2 - (i + 1) / 2);
        dueCouples("21 the first who can", x, 2, NONE, 0, NONE);
        // A chain of three, where each has to make room.
        x = new OtherName();
        first(x, WOMAN, 0);
        first(x, WOMAN, 1);
        first(x, WOMAN, 2);
        first(x, MAN, 3);
        first(x, MAN, 3);
        first(x, MAN, 3);
        dueCouples("21 all alike", x, 3, 4, 5, 0, 1, 2);
        x.call(5, 2);
        dueCouples("21 the last can't have the last", x, 3, 5, 4, 0, 2, 1);
        x.call(4, 1);
        dueCouples("21 nor the second the second", x, 3, 5, 4, 0, 2, 1);
        x.call(3, 0);
        dueCouples("21 nor the first the first", x, 5, 3, 4, 1, 2, 0);
    }

    private static void dueCouples(String what, OtherName x, int... want) {
        for (int i = 0; i < want.length; i++) due(what + ": " + i, x.couples(10 + i), want[i]);
        for (int i = want.length; i < 12; i++) due(what + ": " + i, x.couples(10 + i), NONE);
    }

    private static void lasts() {
        OtherName x = twoBranches();
        int[] want = {3, 1, 1, 2, 0, 0};
        for (int i = 0; i < 6; i++) due("22 lasts " + i, x.lasts(i), want[i]);
        x.call(4, 0);
        due("22 two of one generation", x.lasts(0), 3);
        x.call(0, 5);
        due("22 not by the told one alone", x.lasts(0), 1);
        due("22 the new one", x.lasts(5), 3);
        x.dies(6);
        due("22 the dead had it", x.lasts(5), 3);
        due("22 below", x.lasts(-1), UNKNOWN);
        due("22 above", x.lasts(6), UNKNOWN);
        for (int far : FAR) due("22 far", x.lasts(far), UNKNOWN);
        // With a hole: generations 0 and 2, not 1.
        x = withLaw("f2m");
        first(x, MAN, 4);
        first(x, WOMAN, 1);
        first(x, WOMAN, 4);
        born(x, CHILD, MAN, 0, 1);
        born(x, TWIN, MAN, 3, 2);
        due("22 with a hole", x.lasts(4), 2);
    }

    private static void image() {
        OtherName x = new OtherName();
        due("23 of nobody", x.image(), 0);
        first(x, MAN, 1);
        first(x, WOMAN, 2);
        due("23 of two", x.image(), 2);
        long h = x.digest();
        born(x, CHILD, MAN, GAP, 1);
        due("23 the latest", x.restore(), 2);
        due("23 the same", x.digest(), h);
        born(x, CHILD, WOMAN, 0, 1);
        x.write(2, 1);
        due("23 of three", x.image(), 3);
        due("23 a later one", x.restore(), 3);
        due("23 with what is written", x.about(2, 5), 1);
    }

    private static void restore() {
        OtherName x = new OtherName();
        due("24 none", x.restore(), STATE);
        first(x, MAN, 1);
        first(x, WOMAN, 2);
        born(x, CHILD, MAN, GAP, 1);
        x.write(0, 3);
        x.dies(1);
        x.image();
        x.call(0, 5);
        x.call(1, 0);
        x.write(0, NONE);
        x.write(2, 4);
        x.dies(0);
        born(x, HEIR, WOMAN, GAP, 1);
        born(x, HEIR, WOMAN, GAP, 1);
        x.write(3, 4);
        x.dies(3);
        x.letters(word("m"));
        x.law();
        x.letters(word("ab"));
        x.mended(0);
        due("24 restore", x.restore(), 3);
        dueNames("24", x, 1, 2, 2);
        int[] written = {3, NONE, NONE};
        int[] alive = {1, 0, 1};
        for (int i = 0; i < 3; i++) {
            due("24 written " + i, x.about(i, 5), written[i]);
            due("24 alive " + i, x.about(i, 6), alive[i]);
        }
        due("24 gone", x.about(3, 0), UNKNOWN);
        int[] counts = {3, 1, 2, 1, 2, 1, 1};
        for (int k = 0; k < 7; k++) due("24 count " + k, x.count(k), counts[k]);
        due("24 the law stays", x.lawTold(0), M);
        due("24 another comes", first(x, MAN, 4), 3);
        due("24 alive", x.about(3, 6), 1);
        due("24 not written", x.about(3, 5), NONE);
        due("24 of no parents", x.near(3, 0), NONE);
        due("24 again", x.restore(), 3);
        due("24 gaps are free again", born(x, CHILD, MAN, GAP, 1), 3);
        due("24 gaps are free again", born(x, CHILD, MAN, GAP, 1), 4);
        due("24 but for one", born(x, CHILD, MAN, GAP, 1), FULL);
    }

    private static void count() {
        OtherName x = cousins("f");
        born(x, CHILD, MAN, GAP, 1);
        born(x, CHILD, MAN, GAP, 1);
        x.dies(0);
        x.dies(3);
        x.dies(6);
        x.write(1, 0);
        x.write(7, 0);
        x.write(7, 5);
        x.write(6, 5);
        x.write(5, 5);
        x.letters(word("hello"));
        for (int i = 0; i < 6; i++) x.mended(i);
        int[] want = {8, 2, 5, 4, 5, 1, 5};
        for (int k = 0; k < 7; k++) due("25 count " + k, x.count(k), want[k]);
        due("25 below", x.count(-1), OUTSIDE);
        due("25 above", x.count(7), OUTSIDE);
        for (int far : FAR) due("25 far", x.count(far), OUTSIDE);
    }

    private static void digest() {
        OtherName x = twoBranches();
        due("26 of eight", x.digest(), folded(x, ""));
        x.letters(word("q~"));
        born(x, HEIR, MAN, GAP, 7);
        x.write(8, 0);
        x.write(6, 1);
        x.dies(2);
        x.mended(1);
        due("26 of nine", x.digest(), folded(x, "q~"));
        x.write(6, NONE);
        due("26 of some ways", x.digest(), folded(x, "q~"));
        long h = x.digest();
        due("26 changes nothing", x.digest(), h);
    }

    public static void main(String[] args) {
        newObject();
        letters();
        blank();
        fault();
        law();
        lawTold();
        person();
        about();
        names();
        as();
        call();
        write();
        dies();
        wrong();
        mended();
        ways();
        sure();
        laws();
        near();
        kin();
        may();
        couples();
        lasts();
        image();
        restore();
        count();
        digest();
        System.out.println(failures == 0 ? "all promises hold" : failures + " answers are not as due");
        if (failures != 0) System.exit(1);
    }
}
