/** The edges of promises 1 to 6, a sentence each: a new object, THE PAGE and THE LAW. */
public final class EdgesOfLawTest {
    private static void newObject() {
        Due.says("1", "THE LAW is \"f3g\"; nobody.");
        OtherName x = new OtherName();
        Due.lawTold("new", x, Due.F, 3, Due.G, Due.M);
        for (int what = 0; what < 7; what++) Due.due("count " + what, x.count(what), 0);
        Due.due("nobody", x.about(0, 0), Due.UNKNOWN);
        Due.due("no image", x.restore(), Due.STATE);
        Due.due("no letter", x.blank(), 0);

        Due.says("terms", "At first it is \"f3g\".");
        Due.man(x, 3);
        Due.woman(x, 1);
        Due.son(x, 0, 1);
        Due.son(x, 2, 1);
        Due.names("named by it", x, 3, 1, 3, 1);

        Due.says("1", "THE LAW is \"f3g\"; nobody. (whatever another object has)");
        Due.page(x, "ptp");
        x.law();
        x.image();
        Due.page(x, "m");
        OtherName y = new OtherName();
        Due.lawTold("another", y, Due.F, 3, Due.G, Due.M);
        for (int what = 0; what < 7; what++) Due.due("count " + what + " of another", y.count(what), 0);
        Due.due("no image of another", y.restore(), Due.STATE);
    }

    private static void lettersAsBytes() {
        Due.says("2", "told by their codes in the bytes of w, the lowest byte first");
        OtherName x = new OtherName();
        Due.due("f3g", x.letters(0x673366L), 3);
        Due.due("law", x.law(), 1);
        Due.lawTold("f3g", x, Due.F, 3, Due.G, Due.M);
        Due.due("g3f", x.letters(0x663367L), 3);
        Due.due("law", x.law(), 2);
        Due.lawTold("g3f", x, Due.G, 3, Due.F, Due.M);

        Due.says("2", "Letters come behind THE PAGE");
        Due.due("p", x.letters('p'), 1);
        Due.due("5", x.letters('5'), 2);
        Due.due("mt", x.letters(Due.word("mt")), 4);
        Due.due("g", x.letters('g'), 5);
        Due.due("law", x.law(), 3);
        Due.lawTold("p5mtg", x, Due.P, 5, Due.M, Due.G);

        Due.says("2", "up to eight");
        for (int n = 0; n <= 8; n++) {
            OtherName y = new OtherName();
            Due.due(n + " letters", y.letters(Due.word("f3gtmabc".substring(0, n))), n);
            Due.due(n + " letters counted", y.count(4), n);
            Due.due(n + " letters' fault", y.fault(), Math.min(n, 5));
        }

        Due.says("2", "until a byte that is 0: how many THE PAGE has.");
        OtherName y = new OtherName();
        Due.due("none, on an empty page", y.letters(0L), 0);
        Due.due("one", y.letters(1L), 1);
        Due.due("none, behind one", y.letters(0L), 1);
    }

    private static void lettersOutside() {
        Due.says("2", "OUTSIDE: a byte above 126");
        for (int place = 0; place < 8; place++) {
            OtherName x = new OtherName();
            Due.page(x, "ab");
            long ahead = x.digest();
            long filled = place == 0 ? 0 : 0x6161616161616161L >>> 8 * (8 - place);
            for (int code : new int[] {127, 128, 129, 200, 254, 255}) {
                String what = "code " + code + " at " + place;
                Due.refused(what, x, ahead, x.letters(filled | (long) code << 8 * place), Due.OUTSIDE);
            }
            Due.due("code 126 at " + place, x.letters(filled | 126L << 8 * place), 3 + place);
            x.blank();
            Due.due("code 1 at " + place, x.letters(filled | 1L << 8 * place), 1 + place);
        }
        Due.due("eight bytes of 255", new OtherName().letters(-1L), Due.OUTSIDE);
        Due.due("the largest long", new OtherName().letters(Long.MAX_VALUE), Due.OUTSIDE);

        Due.says("2", "or one behind a 0 that is not 0");
        for (int zero = 0; zero < 7; zero++) {
            OtherName x = new OtherName();
            Due.page(x, "cd");
            long ahead = x.digest();
            long filled = zero == 0 ? 0 : 0x6161616161616161L >>> 8 * (8 - zero);
            for (int behind = zero + 1; behind < 8; behind++) {
                Due.refused("a 0 at " + zero + ", one at " + behind, x, ahead, x.letters(filled | 1L << 8 * behind), Due.OUTSIDE);
                Due.refused("a 0 at " + zero + ", 126 at " + behind, x, ahead, x.letters(filled | 126L << 8 * behind), Due.OUTSIDE);
            }
            Due.due("zeros from " + zero, x.letters(filled), 2 + zero);
        }
        Due.due("the least long", new OtherName().letters(Long.MIN_VALUE), Due.OUTSIDE);
    }

    private static void lettersFull() {
        Due.says("2", "FULL: above 16.");
        for (int more = 1; more <= 8; more++) {
            OtherName x = new OtherName();
            String text = "abcdefghijklmnop".substring(0, 16 - more + 1);
            Due.page(x, text);
            long ahead = x.digest();
            Due.refused(more + " behind " + text, x, ahead, x.letters(Due.word("qrstuvwx".substring(0, more))), Due.FULL);
            Due.due("one less", x.letters(Due.word("qrstuvwx".substring(0, more - 1))), 16);
        }
        OtherName x = new OtherName();
        Due.page(x, "abcdefghijklmnop");
        Due.due("sixteen", x.count(4), 16);
        Due.due("none more", x.letters(0L), 16);
        long ahead = x.digest();
        Due.refused("one more", x, ahead, x.letters(1L), Due.FULL);
        Due.refused("eight more", x, ahead, x.letters(Due.word("abcdefgh")), Due.FULL);

        Due.says("2", "OUTSIDE .. ; FULL (of several the first as told)");
        Due.refused("127 on a full page", x, ahead, x.letters(127L), Due.OUTSIDE);
        Due.refused("a 0 between, on a full page", x, ahead, x.letters(0x610061L), Due.OUTSIDE);
        Due.refused("seven, then 255, on a full page", x, ahead, x.letters(Due.word("abcdefg") | 255L << 56), Due.OUTSIDE);
    }

    private static void blank() {
        Due.says("3", "THE PAGE is empty: how many letters it had.");
        OtherName x = new OtherName();
        Due.due("of an empty one", x.blank(), 0);
        for (int n = 1; n <= 16; n++) {
            Due.page(x, "f3gtmf3gtmf3gtmf".substring(0, n));
            Due.due("of " + n, x.blank(), n);
            Due.due("empty then", x.count(4), 0);
            Due.due("again", x.blank(), 0);
            Due.due("no fault in it", x.fault(), 0);
        }
        Due.due("no law in it", x.law(), Due.STATE);
        Due.page(x, "abcdefghijklmnop");
        Due.due("all sixteen come again", x.count(4), 16);
        Due.lawTold("the law stays", x, Due.F, 3, Due.G, Due.M);
        Due.due("read none", x.count(5), 0);
    }

    private static void fault() {
        Due.says("4", "the first letter of THE PAGE that no LAW has there, behind those ahead of it");
        String[] ahead = {"", "f", "p2", "m5g", "gt", "f3gt", "mtp", "g4ptf"};
        String[] allowed = {"fmgp", "2345t", "fmgp", "t", "fmgp", "fmgp", "", ""};
        for (int i = 0; i < ahead.length; i++) {
            OtherName x = new OtherName();
            for (int code = 1; code <= 126; code++) {
                String text = ahead[i] + (char) code;
                x.letters(Due.word(text));
                int due = ahead[i].length() + (allowed[i].indexOf(code) >= 0 ? 1 : 0);
                Due.due("fault of '" + text + "'", x.fault(), due);
                Due.due("the page stays", x.blank(), text.length());
            }
        }
        String[] texts = {"xf3g", "fxxx", "f3xxx", "f3g3g", "f3gtxm", "f3gtmtm", "ftmtm", "f3gtmf3gtmf3gtmf", "tttttttttttttttt"};
        int[] want = {0, 1, 2, 3, 4, 5, 3, 5, 0};
        for (int i = 0; i < texts.length; i++) {
            OtherName x = new OtherName();
            Due.page(x, texts[i]);
            Due.due("fault of '" + texts[i] + "'", x.fault(), want[i]);
            Due.due("fault again", x.fault(), want[i]);
            Due.due("the page stays", x.count(4), texts[i].length());
        }

        Due.says("4", "how many letters it has, if there is none.");
        String[] none = {"", "f", "f3", "f3g", "f3gt", "f3gtm", "ft", "ftm"};
        for (String text : none) {
            OtherName x = new OtherName();
            Due.page(x, text);
            Due.due("no fault in '" + text + "'", x.fault(), text.length());
        }
    }

    /** All texts that are laws: a rule, perhaps every and a rule, perhaps t and a rule. */
    private static void everyLaw() {
        Due.says("terms", "a RULE, then perhaps EVERY (2 to 5) and a RULE, then perhaps \"t\" and a RULE (for TWINS; \"m\", if it is not told)");
        for (int first = 0; first < 4; first++) {
            for (int every = 1; every <= 5; every++) {
                for (int second = 0; second < (every == 1 ? 1 : 4); second++) {
                    for (int twins = -1; twins < 4; twins++) {
                        oneLaw(first, every, second, twins);
                    }
                }
            }
        }
    }

    /** Every 1: there is none; twins -1: not told. */
    private static void oneLaw(int first, int every, int second, int twins) {
        String text = "" + Due.RULES.charAt(first);
        if (every > 1) text = text + every + Due.RULES.charAt(second);
        if (twins >= 0) text = text + "t" + Due.RULES.charAt(twins);
        OtherName x = Due.withLaw(text);
        Due.lawTold(text, x, first, every > 1 ? every : 0, every > 1 ? second : Due.NONE, twins < 0 ? Due.M : twins);
    }

    private static void law() {
        Due.says("5", "THE PAGE is read as THE LAW (another one is gone)");
        OtherName x = Due.withLaw("p5gtf");
        Due.page(x, "m");
        Due.due("second", x.law(), 2);
        Due.lawTold("nothing of the one ahead is left", x, Due.M, 0, Due.NONE, Due.M);
        Due.page(x, "g2p");
        x.law();
        Due.lawTold("with every, without twins", x, Due.G, 2, Due.P, Due.M);
        Due.page(x, "ftp");
        x.law();
        Due.lawTold("without every, with twins", x, Due.F, 0, Due.NONE, Due.P);

        Due.says("5", "how often one was read");
        OtherName y = new OtherName();
        for (int n = 1; n <= 100; n++) {
            y.letters('f');
            Due.due("the " + n + "th", y.law(), n);
            Due.due("a refused one", y.law(), Due.STATE);
            Due.due("does not count", y.count(5), n);
        }

        Due.says("5", "THE PAGE is empty then.");
        Due.due("no letters", x.count(4), 0);
        Due.due("it is none", x.law(), Due.STATE);
        Due.due("no fault", x.fault(), 0);

        Due.says("5", "STATE: it is none.");
        String[] none = {"", "f3", "f3gt", "ft", "t", "tm", "2", "2f", "ff", "f1g", "f6g", "f0g", "f9g", "f3gg", "f3gtmm", "ftmf",
            "f3g ", " f3g", "F3g", "f3G", "f33g", "f3tg", "ft3", "fttm", "f3gtmf3gtmf3gtmf", "f22f"};
        for (String text : none) {
            OtherName z = Due.withLaw("m4ptg");
            Due.man(z, 2);
            Due.page(z, text);
            Due.refused("'" + text + "'", z, z.digest(), z.law(), Due.STATE);
            Due.due("the page stays '" + text + "'", z.count(4), text.length());
            Due.lawTold("the law stays", z, Due.M, 4, Due.P, Due.G);
        }

        Due.says("terms", "The NAME of a CHILD: by the first RULE (of THE LAW as it is now)");
        OtherName z = Due.chain("f", 3, 1, 4);
        Due.names("f", z, 3, 1, 3, 3);
        Due.page(z, "m");
        z.law();
        Due.names("m", z, 3, 1, 1, 1);
    }

    private static void lawTold() {
        Due.says("6", "what = 0 the first RULE, 1 EVERY (0: none), 2 the second RULE (NONE), 3 the RULE for TWINS. OUTSIDE.");
        OtherName x = Due.withLaw("p");
        Due.lawTold("p", x, Due.P, 0, Due.NONE, Due.M);
        long ahead = x.digest();
        Due.refused("below", x, ahead, x.lawTold(-1), Due.OUTSIDE);
        Due.refused("above", x, ahead, x.lawTold(4), Due.OUTSIDE);
        for (int far : Due.FAR) Due.refused("what = " + far, x, ahead, x.lawTold(far), Due.OUTSIDE);
    }

    public static void main(String[] args) {
        newObject();
        lettersAsBytes();
        lettersOutside();
        lettersFull();
        blank();
        fault();
        everyLaw();
        law();
        lawTold();
        Due.end("edges of the law");
    }
}
