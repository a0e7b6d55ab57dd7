/** What the tests of the document's edges share: a sentence, and answers that are due by it. */
final class Due {
    static final int NONE = -1, GAP = -2, UNKNOWN = -101, OUTSIDE = -102, STATE = -103, FULL = -104;
    static final int CHILD = 0, FIRST = 1, TWIN = 2, FOUNDLING = 3, HEIR = 4;
    static final int MAN = 0, WOMAN = 1;
    static final int F = 0, M = 1, G = 2, P = 3;
    static final String RULES = "fmgp";
    /** Numbers that name nothing anywhere in the document. */
    static final int[] FAR = {Integer.MIN_VALUE, Integer.MIN_VALUE + 1, -104, -3, 23, 255, 256, 65536, Integer.MAX_VALUE - 1,
        Integer.MAX_VALUE};

    private static String sentence = "";
    private static int sentences = 0;
    private static int failures = 0;

    private Due() { }

    /** The document's sentence that the answers behind this are due by. */
    static void says(String promise, String words) {
        sentence = promise + ": " + words;
        sentences++;
    }

    static void due(String what, long got, long want) {
        if (got != want) {
            failures++;
            System.out.println("[" + sentence + "] " + what + " answered " + got + ", due is " + want);
        }
    }

    /** A refused call changes nothing: the digest tells all but what stands in the image and at the page's fault. */
    static void refused(String what, OtherName x, long digestAhead, int got, int want) {
        due(what, got, want);
        due(what + ", the digest behind it", x.digest(), digestAhead);
    }

    static void end(String of) {
        System.out.println(of + ": " + sentences + " sentences, " + (failures == 0 ? "all hold" : failures + " answers are not as due"));
        if (failures != 0) System.exit(1);
    }

    static long word(String text) {
        long w = 0;
        for (int i = text.length() - 1; i >= 0; i--) w = w << 8 | text.charAt(i);
        return w;
    }

    /** Puts a text of any length on the page, eight letters at a time. */
    static void page(OtherName x, String text) {
        for (int i = 0; i < text.length(); i += 8) {
            int end = Math.min(text.length(), i + 8);
            due("letters of " + text, x.letters(word(text.substring(i, end))), end);
        }
    }

    static OtherName withLaw(String text) {
        OtherName x = new OtherName();
        page(x, text);
        due("law of " + text, x.law(), 1);
        return x;
    }

    static int man(OtherName x, int name) {
        return x.person(FIRST, MAN, NONE, NONE, name);
    }

    static int woman(OtherName x, int name) {
        return x.person(FIRST, WOMAN, NONE, NONE, name);
    }

    static int son(OtherName x, int father, int mother) {
        return x.person(CHILD, MAN, father, mother, 0);
    }

    static int daughter(OtherName x, int father, int mother) {
        return x.person(CHILD, WOMAN, father, mother, 0);
    }

    static int born(OtherName x, int kind, int sex, int father, int mother) {
        return x.person(kind, sex, father, mother, 0);
    }

    /** The first man and the first woman have names; then sons, each of the one ahead of him, all of the woman. */
    static OtherName chain(String law, int nameOfMan, int nameOfWoman, int people) {
        OtherName x = withLaw(law);
        man(x, nameOfMan);
        woman(x, nameOfWoman);
        for (int i = 2; i < people; i++) due("son " + i, son(x, i == 2 ? 0 : i - 1, 1), i);
        return x;
    }

    static void names(String what, OtherName x, int... want) {
        due(what + ": people", x.count(0), want.length);
        for (int i = 0; i < want.length; i++) due(what + ": name of " + i, x.about(i, 4), want[i]);
    }

    static void laws(String what, OtherName x, int... want) {
        for (int i = 0; i < want.length; i++) due(what + ": laws(" + i + ")", x.laws(i), want[i]);
    }

    static void lawTold(String what, OtherName x, int... want) {
        for (int i = 0; i < want.length; i++) due(what + ": lawTold(" + i + ")", x.lawTold(i), want[i]);
    }

    /** Whom each weds; those behind are nobody, and wed nobody. */
    static void weds(String what, OtherName x, int... want) {
        int wed = 0;
        for (int i = 0; i < 12; i++) {
            int due = i < want.length ? want[i] : NONE;
            due(what + ": whom " + i + " weds", x.couples(10 + i), due);
            wed += due == NONE ? 0 : 1;
        }
        due(what + ": how many", x.couples(0), wed / 2);
    }
}
